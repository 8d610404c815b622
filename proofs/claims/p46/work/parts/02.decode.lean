theorem dX0_init_0 : decode cX0_init 0 = .ok (.aload_n 0, 1) := k_42 zcX0_init rfl rfl
theorem dX0_init_1 : decode cX0_init 1 = .ok (.invokespecial 3, 3) := k_183 zcX0_init rfl rfl rfl
theorem dX0_init_4 : decode cX0_init 4 = .ok (.return_, 1) := k_177 zcX0_init rfl rfl
theorem dX0_clear_0 : decode cX0_clear 0 = .ok (.aload_n 0, 1) := k_42 zcX0_clear rfl rfl
theorem dX0_clear_1 : decode cX0_clear 1 = .ok (.iconst 0, 1) := k_3 zcX0_clear rfl rfl
theorem dX0_clear_2 : decode cX0_clear 2 = .ok (.putfield 9, 3) := k_181 zcX0_clear rfl rfl rfl
theorem dX0_clear_5 : decode cX0_clear 5 = .ok (.aload_n 0, 1) := k_42 zcX0_clear rfl rfl
theorem dX0_clear_6 : decode cX0_clear 6 = .ok (.iconst 0, 1) := k_3 zcX0_clear rfl rfl
theorem dX0_clear_7 : decode cX0_clear 7 = .ok (.putfield 15, 3) := k_181 zcX0_clear rfl rfl rfl
theorem dX0_clear_10 : decode cX0_clear 10 = .ok (.aload_n 0, 1) := k_42 zcX0_clear rfl rfl
theorem dX0_clear_11 : decode cX0_clear 11 = .ok (.iconst 0, 1) := k_3 zcX0_clear rfl rfl
theorem dX0_clear_12 : decode cX0_clear 12 = .ok (.putfield 18, 3) := k_181 zcX0_clear rfl rfl rfl
theorem dX0_clear_15 : decode cX0_clear 15 = .ok (.aload_n 0, 1) := k_42 zcX0_clear rfl rfl
theorem dX0_clear_16 : decode cX0_clear 16 = .ok (.iconst 0, 1) := k_3 zcX0_clear rfl rfl
theorem dX0_clear_17 : decode cX0_clear 17 = .ok (.putfield 21, 3) := k_181 zcX0_clear rfl rfl rfl
theorem dX0_clear_20 : decode cX0_clear 20 = .ok (.aload_n 0, 1) := k_42 zcX0_clear rfl rfl
theorem dX0_clear_21 : decode cX0_clear 21 = .ok (.iconst 0, 1) := k_3 zcX0_clear rfl rfl
theorem dX0_clear_22 : decode cX0_clear 22 = .ok (.putfield 24, 3) := k_181 zcX0_clear rfl rfl rfl
theorem dX0_clear_25 : decode cX0_clear 25 = .ok (.aload_n 0, 1) := k_42 zcX0_clear rfl rfl
theorem dX0_clear_26 : decode cX0_clear 26 = .ok (.iconst 0, 1) := k_3 zcX0_clear rfl rfl
theorem dX0_clear_27 : decode cX0_clear 27 = .ok (.putfield 27, 3) := k_181 zcX0_clear rfl rfl rfl
theorem dX0_clear_30 : decode cX0_clear 30 = .ok (.aload_n 0, 1) := k_42 zcX0_clear rfl rfl
theorem dX0_clear_31 : decode cX0_clear 31 = .ok (.iconst 0, 1) := k_3 zcX0_clear rfl rfl
theorem dX0_clear_32 : decode cX0_clear 32 = .ok (.putfield 30, 3) := k_181 zcX0_clear rfl rfl rfl
theorem dX0_clear_35 : decode cX0_clear 35 = .ok (.return_, 1) := k_177 zcX0_clear rfl rfl
theorem dX0_copyFrom_0 : decode cX0_copyFrom 0 = .ok (.aload_n 0, 1) := k_42 zcX0_copyFrom rfl rfl
theorem dX0_copyFrom_1 : decode cX0_copyFrom 1 = .ok (.aload_n 1, 1) := k_43 zcX0_copyFrom rfl rfl
theorem dX0_copyFrom_2 : decode cX0_copyFrom 2 = .ok (.getfield 9, 3) := k_180 zcX0_copyFrom rfl rfl rfl
theorem dX0_copyFrom_5 : decode cX0_copyFrom 5 = .ok (.putfield 9, 3) := k_181 zcX0_copyFrom rfl rfl rfl
theorem dX0_copyFrom_8 : decode cX0_copyFrom 8 = .ok (.aload_n 0, 1) := k_42 zcX0_copyFrom rfl rfl
theorem dX0_copyFrom_9 : decode cX0_copyFrom 9 = .ok (.aload_n 1, 1) := k_43 zcX0_copyFrom rfl rfl
theorem dX0_copyFrom_10 : decode cX0_copyFrom 10 = .ok (.getfield 15, 3) := k_180 zcX0_copyFrom rfl rfl rfl
theorem dX0_copyFrom_13 : decode cX0_copyFrom 13 = .ok (.putfield 15, 3) := k_181 zcX0_copyFrom rfl rfl rfl
theorem dX0_copyFrom_16 : decode cX0_copyFrom 16 = .ok (.aload_n 0, 1) := k_42 zcX0_copyFrom rfl rfl
theorem dX0_copyFrom_17 : decode cX0_copyFrom 17 = .ok (.aload_n 1, 1) := k_43 zcX0_copyFrom rfl rfl
theorem dX0_copyFrom_18 : decode cX0_copyFrom 18 = .ok (.getfield 18, 3) := k_180 zcX0_copyFrom rfl rfl rfl
theorem dX0_copyFrom_21 : decode cX0_copyFrom 21 = .ok (.putfield 18, 3) := k_181 zcX0_copyFrom rfl rfl rfl
theorem dX0_copyFrom_24 : decode cX0_copyFrom 24 = .ok (.aload_n 0, 1) := k_42 zcX0_copyFrom rfl rfl
theorem dX0_copyFrom_25 : decode cX0_copyFrom 25 = .ok (.aload_n 1, 1) := k_43 zcX0_copyFrom rfl rfl
theorem dX0_copyFrom_26 : decode cX0_copyFrom 26 = .ok (.getfield 21, 3) := k_180 zcX0_copyFrom rfl rfl rfl
theorem dX0_copyFrom_29 : decode cX0_copyFrom 29 = .ok (.putfield 21, 3) := k_181 zcX0_copyFrom rfl rfl rfl
theorem dX0_copyFrom_32 : decode cX0_copyFrom 32 = .ok (.aload_n 0, 1) := k_42 zcX0_copyFrom rfl rfl
theorem dX0_copyFrom_33 : decode cX0_copyFrom 33 = .ok (.aload_n 1, 1) := k_43 zcX0_copyFrom rfl rfl
theorem dX0_copyFrom_34 : decode cX0_copyFrom 34 = .ok (.getfield 24, 3) := k_180 zcX0_copyFrom rfl rfl rfl
theorem dX0_copyFrom_37 : decode cX0_copyFrom 37 = .ok (.putfield 24, 3) := k_181 zcX0_copyFrom rfl rfl rfl
theorem dX0_copyFrom_40 : decode cX0_copyFrom 40 = .ok (.aload_n 0, 1) := k_42 zcX0_copyFrom rfl rfl
theorem dX0_copyFrom_41 : decode cX0_copyFrom 41 = .ok (.aload_n 1, 1) := k_43 zcX0_copyFrom rfl rfl
theorem dX0_copyFrom_42 : decode cX0_copyFrom 42 = .ok (.getfield 27, 3) := k_180 zcX0_copyFrom rfl rfl rfl
theorem dX0_copyFrom_45 : decode cX0_copyFrom 45 = .ok (.putfield 27, 3) := k_181 zcX0_copyFrom rfl rfl rfl
theorem dX0_copyFrom_48 : decode cX0_copyFrom 48 = .ok (.aload_n 0, 1) := k_42 zcX0_copyFrom rfl rfl
theorem dX0_copyFrom_49 : decode cX0_copyFrom 49 = .ok (.aload_n 1, 1) := k_43 zcX0_copyFrom rfl rfl
theorem dX0_copyFrom_50 : decode cX0_copyFrom 50 = .ok (.getfield 30, 3) := k_180 zcX0_copyFrom rfl rfl rfl
theorem dX0_copyFrom_53 : decode cX0_copyFrom 53 = .ok (.putfield 30, 3) := k_181 zcX0_copyFrom rfl rfl rfl
theorem dX0_copyFrom_56 : decode cX0_copyFrom 56 = .ok (.return_, 1) := k_177 zcX0_copyFrom rfl rfl
theorem dX0_add_0 : decode cX0_add 0 = .ok (.aload_n 0, 1) := k_42 zcX0_add rfl rfl
theorem dX0_add_1 : decode cX0_add 1 = .ok (.getfield 18, 3) := k_180 zcX0_add rfl rfl rfl
theorem dX0_add_4 : decode cX0_add 4 = .ok (.ifCond .le 7, 3) := k_158 zcX0_add rfl rfl rfl
theorem dX0_add_7 : decode cX0_add 7 = .ok (.iconst 1, 1) := k_4 zcX0_add rfl rfl
theorem dX0_add_8 : decode cX0_add 8 = .ok (.goto 4, 3) := k_167 zcX0_add rfl rfl rfl
theorem dX0_add_11 : decode cX0_add 11 = .ok (.iconst 0, 1) := k_3 zcX0_add rfl rfl
theorem dX0_add_12 : decode cX0_add 12 = .ok (.istore_n 1, 1) := k_60 zcX0_add rfl rfl
theorem dX0_add_13 : decode cX0_add 13 = .ok (.aload_n 0, 1) := k_42 zcX0_add rfl rfl
theorem dX0_add_14 : decode cX0_add 14 = .ok (.dup, 1) := k_89 zcX0_add rfl rfl
theorem dX0_add_15 : decode cX0_add 15 = .ok (.getfield 18, 3) := k_180 zcX0_add rfl rfl rfl
theorem dX0_add_18 : decode cX0_add 18 = .ok (.iconst 1, 1) := k_4 zcX0_add rfl rfl
theorem dX0_add_19 : decode cX0_add 19 = .ok (.iadd, 1) := k_96 zcX0_add rfl rfl
theorem dX0_add_20 : decode cX0_add 20 = .ok (.putfield 18, 3) := k_181 zcX0_add rfl rfl rfl
theorem dX0_add_23 : decode cX0_add 23 = .ok (.aload_n 0, 1) := k_42 zcX0_add rfl rfl
theorem dX0_add_24 : decode cX0_add 24 = .ok (.iload_n 1, 1) := k_27 zcX0_add rfl rfl
theorem dX0_add_25 : decode cX0_add 25 = .ok (.invokevirtual 33, 3) := k_182 zcX0_add rfl rfl rfl
theorem dX0_add_28 : decode cX0_add 28 = .ok (.return_, 1) := k_177 zcX0_add rfl rfl
theorem dX0_drop_0 : decode cX0_drop 0 = .ok (.aload_n 0, 1) := k_42 zcX0_drop rfl rfl
theorem dX0_drop_1 : decode cX0_drop 1 = .ok (.dup, 1) := k_89 zcX0_drop rfl rfl
theorem dX0_drop_2 : decode cX0_drop 2 = .ok (.getfield 9, 3) := k_180 zcX0_drop rfl rfl rfl
theorem dX0_drop_5 : decode cX0_drop 5 = .ok (.iconst 1, 1) := k_4 zcX0_drop rfl rfl
theorem dX0_drop_6 : decode cX0_drop 6 = .ok (.isub, 1) := k_100 zcX0_drop rfl rfl
theorem dX0_drop_7 : decode cX0_drop 7 = .ok (.putfield 9, 3) := k_181 zcX0_drop rfl rfl rfl
theorem dX0_drop_10 : decode cX0_drop 10 = .ok (.aload_n 0, 1) := k_42 zcX0_drop rfl rfl
theorem dX0_drop_11 : decode cX0_drop 11 = .ok (.getfield 21, 3) := k_180 zcX0_drop rfl rfl rfl
theorem dX0_drop_14 : decode cX0_drop 14 = .ok (.ifCond .le 13, 3) := k_158 zcX0_drop rfl rfl rfl
theorem dX0_drop_17 : decode cX0_drop 17 = .ok (.aload_n 0, 1) := k_42 zcX0_drop rfl rfl
theorem dX0_drop_18 : decode cX0_drop 18 = .ok (.dup, 1) := k_89 zcX0_drop rfl rfl
theorem dX0_drop_19 : decode cX0_drop 19 = .ok (.getfield 21, 3) := k_180 zcX0_drop rfl rfl rfl
theorem dX0_drop_22 : decode cX0_drop 22 = .ok (.iconst 1, 1) := k_4 zcX0_drop rfl rfl
theorem dX0_drop_23 : decode cX0_drop 23 = .ok (.isub, 1) := k_100 zcX0_drop rfl rfl
theorem dX0_drop_24 : decode cX0_drop 24 = .ok (.putfield 21, 3) := k_181 zcX0_drop rfl rfl rfl
theorem dX0_drop_27 : decode cX0_drop 27 = .ok (.aload_n 0, 1) := k_42 zcX0_drop rfl rfl
theorem dX0_drop_28 : decode cX0_drop 28 = .ok (.iconst 0, 1) := k_3 zcX0_drop rfl rfl
theorem dX0_drop_29 : decode cX0_drop 29 = .ok (.invokevirtual 33, 3) := k_182 zcX0_drop rfl rfl rfl
theorem dX0_drop_32 : decode cX0_drop 32 = .ok (.return_, 1) := k_177 zcX0_drop rfl rfl
theorem dX0_layAnew_0 : decode cX0_layAnew 0 = .ok (.aload_n 0, 1) := k_42 zcX0_layAnew rfl rfl
theorem dX0_layAnew_1 : decode cX0_layAnew 1 = .ok (.iload_n 1, 1) := k_27 zcX0_layAnew rfl rfl
theorem dX0_layAnew_2 : decode cX0_layAnew 2 = .ok (.putfield 9, 3) := k_181 zcX0_layAnew rfl rfl rfl
theorem dX0_layAnew_5 : decode cX0_layAnew 5 = .ok (.aload_n 0, 1) := k_42 zcX0_layAnew rfl rfl
theorem dX0_layAnew_6 : decode cX0_layAnew 6 = .ok (.iconst 0, 1) := k_3 zcX0_layAnew rfl rfl
theorem dX0_layAnew_7 : decode cX0_layAnew 7 = .ok (.putfield 15, 3) := k_181 zcX0_layAnew rfl rfl rfl
theorem dX0_layAnew_10 : decode cX0_layAnew 10 = .ok (.aload_n 0, 1) := k_42 zcX0_layAnew rfl rfl
theorem dX0_layAnew_11 : decode cX0_layAnew 11 = .ok (.iconst 0, 1) := k_3 zcX0_layAnew rfl rfl
theorem dX0_layAnew_12 : decode cX0_layAnew 12 = .ok (.putfield 18, 3) := k_181 zcX0_layAnew rfl rfl rfl
theorem dX0_layAnew_15 : decode cX0_layAnew 15 = .ok (.aload_n 0, 1) := k_42 zcX0_layAnew rfl rfl
theorem dX0_layAnew_16 : decode cX0_layAnew 16 = .ok (.iconst 0, 1) := k_3 zcX0_layAnew rfl rfl
theorem dX0_layAnew_17 : decode cX0_layAnew 17 = .ok (.putfield 21, 3) := k_181 zcX0_layAnew rfl rfl rfl
theorem dX0_layAnew_20 : decode cX0_layAnew 20 = .ok (.aload_n 0, 1) := k_42 zcX0_layAnew rfl rfl
theorem dX0_layAnew_21 : decode cX0_layAnew 21 = .ok (.iconst 0, 1) := k_3 zcX0_layAnew rfl rfl
theorem dX0_layAnew_22 : decode cX0_layAnew 22 = .ok (.iload_n 1, 1) := k_27 zcX0_layAnew rfl rfl
theorem dX0_layAnew_23 : decode cX0_layAnew 23 = .ok (.iconst 1, 1) := k_4 zcX0_layAnew rfl rfl
theorem dX0_layAnew_24 : decode cX0_layAnew 24 = .ok (.isub, 1) := k_100 zcX0_layAnew rfl rfl
theorem dX0_layAnew_25 : decode cX0_layAnew 25 = .ok (.invokestatic 37, 3) := k_184 zcX0_layAnew rfl rfl rfl
theorem dX0_layAnew_28 : decode cX0_layAnew 28 = .ok (.putfield 24, 3) := k_181 zcX0_layAnew rfl rfl rfl
theorem dX0_layAnew_31 : decode cX0_layAnew 31 = .ok (.aload_n 0, 1) := k_42 zcX0_layAnew rfl rfl
theorem dX0_layAnew_32 : decode cX0_layAnew 32 = .ok (.dup, 1) := k_89 zcX0_layAnew rfl rfl
theorem dX0_layAnew_33 : decode cX0_layAnew 33 = .ok (.getfield 27, 3) := k_180 zcX0_layAnew rfl rfl rfl
theorem dX0_layAnew_36 : decode cX0_layAnew 36 = .ok (.aload_n 0, 1) := k_42 zcX0_layAnew rfl rfl
theorem dX0_layAnew_37 : decode cX0_layAnew 37 = .ok (.getfield 24, 3) := k_180 zcX0_layAnew rfl rfl rfl
theorem dX0_layAnew_40 : decode cX0_layAnew 40 = .ok (.iadd, 1) := k_96 zcX0_layAnew rfl rfl
theorem dX0_layAnew_41 : decode cX0_layAnew 41 = .ok (.putfield 27, 3) := k_181 zcX0_layAnew rfl rfl rfl
theorem dX0_layAnew_44 : decode cX0_layAnew 44 = .ok (.return_, 1) := k_177 zcX0_layAnew rfl rfl
theorem dX0_endMove_0 : decode cX0_endMove 0 = .ok (.iload_n 1, 1) := k_27 zcX0_endMove rfl rfl
theorem dX0_endMove_1 : decode cX0_endMove 1 = .ok (.istore_n 2, 1) := k_61 zcX0_endMove rfl rfl
theorem dX0_endMove_2 : decode cX0_endMove 2 = .ok (.aload_n 0, 1) := k_42 zcX0_endMove rfl rfl
theorem dX0_endMove_3 : decode cX0_endMove 3 = .ok (.getfield 15, 3) := k_180 zcX0_endMove rfl rfl rfl
theorem dX0_endMove_6 : decode cX0_endMove 6 = .ok (.ifCond .ne 43, 3) := k_154 zcX0_endMove rfl rfl rfl
theorem dX0_endMove_9 : decode cX0_endMove 9 = .ok (.aload_n 0, 1) := k_42 zcX0_endMove rfl rfl
theorem dX0_endMove_10 : decode cX0_endMove 10 = .ok (.getfield 18, 3) := k_180 zcX0_endMove rfl rfl rfl
theorem dX0_endMove_13 : decode cX0_endMove 13 = .ok (.aload_n 0, 1) := k_42 zcX0_endMove rfl rfl
theorem dX0_endMove_14 : decode cX0_endMove 14 = .ok (.getfield 9, 3) := k_180 zcX0_endMove rfl rfl rfl
theorem dX0_endMove_17 : decode cX0_endMove 17 = .ok (.if_icmp .le 32, 3) := k_164 zcX0_endMove rfl rfl rfl
theorem dX0_endMove_20 : decode cX0_endMove 20 = .ok (.aload_n 0, 1) := k_42 zcX0_endMove rfl rfl
theorem dX0_endMove_21 : decode cX0_endMove 21 = .ok (.aload_n 0, 1) := k_42 zcX0_endMove rfl rfl
theorem dX0_endMove_22 : decode cX0_endMove 22 = .ok (.getfield 18, 3) := k_180 zcX0_endMove rfl rfl rfl
theorem dX0_endMove_25 : decode cX0_endMove 25 = .ok (.putfield 15, 3) := k_181 zcX0_endMove rfl rfl rfl
theorem dX0_endMove_28 : decode cX0_endMove 28 = .ok (.aload_n 0, 1) := k_42 zcX0_endMove rfl rfl
theorem dX0_endMove_29 : decode cX0_endMove 29 = .ok (.iconst 0, 1) := k_3 zcX0_endMove rfl rfl
theorem dX0_endMove_30 : decode cX0_endMove 30 = .ok (.putfield 18, 3) := k_181 zcX0_endMove rfl rfl rfl
theorem dX0_endMove_33 : decode cX0_endMove 33 = .ok (.aload_n 0, 1) := k_42 zcX0_endMove rfl rfl
theorem dX0_endMove_34 : decode cX0_endMove 34 = .ok (.aload_n 0, 1) := k_42 zcX0_endMove rfl rfl
theorem dX0_endMove_35 : decode cX0_endMove 35 = .ok (.getfield 15, 3) := k_180 zcX0_endMove rfl rfl rfl
theorem dX0_endMove_38 : decode cX0_endMove 38 = .ok (.aload_n 0, 1) := k_42 zcX0_endMove rfl rfl
theorem dX0_endMove_39 : decode cX0_endMove 39 = .ok (.getfield 9, 3) := k_180 zcX0_endMove rfl rfl rfl
theorem dX0_endMove_42 : decode cX0_endMove 42 = .ok (.iadd, 1) := k_96 zcX0_endMove rfl rfl
theorem dX0_endMove_43 : decode cX0_endMove 43 = .ok (.putfield 21, 3) := k_181 zcX0_endMove rfl rfl rfl
theorem dX0_endMove_46 : decode cX0_endMove 46 = .ok (.iinc 2 (-1), 3) := k_132 zcX0_endMove rfl rfl rfl rfl
theorem dX0_endMove_49 : decode cX0_endMove 49 = .ok (.iconst 3, 1) := k_6 zcX0_endMove rfl rfl
theorem dX0_endMove_50 : decode cX0_endMove 50 = .ok (.aload_n 0, 1) := k_42 zcX0_endMove rfl rfl
theorem dX0_endMove_51 : decode cX0_endMove 51 = .ok (.getfield 21, 3) := k_180 zcX0_endMove rfl rfl rfl
theorem dX0_endMove_54 : decode cX0_endMove 54 = .ok (.invokestatic 43, 3) := k_184 zcX0_endMove rfl rfl rfl
theorem dX0_endMove_57 : decode cX0_endMove 57 = .ok (.istore_n 3, 1) := k_62 zcX0_endMove rfl rfl
theorem dX0_endMove_58 : decode cX0_endMove 58 = .ok (.aload_n 0, 1) := k_42 zcX0_endMove rfl rfl
theorem dX0_endMove_59 : decode cX0_endMove 59 = .ok (.dup, 1) := k_89 zcX0_endMove rfl rfl
theorem dX0_endMove_60 : decode cX0_endMove 60 = .ok (.getfield 21, 3) := k_180 zcX0_endMove rfl rfl rfl
theorem dX0_endMove_63 : decode cX0_endMove 63 = .ok (.iload_n 3, 1) := k_29 zcX0_endMove rfl rfl
theorem dX0_endMove_64 : decode cX0_endMove 64 = .ok (.isub, 1) := k_100 zcX0_endMove rfl rfl
theorem dX0_endMove_65 : decode cX0_endMove 65 = .ok (.putfield 21, 3) := k_181 zcX0_endMove rfl rfl rfl
theorem dX0_endMove_68 : decode cX0_endMove 68 = .ok (.iload_n 2, 1) := k_28 zcX0_endMove rfl rfl
theorem dX0_endMove_69 : decode cX0_endMove 69 = .ok (.iload_n 3, 1) := k_29 zcX0_endMove rfl rfl
theorem dX0_endMove_70 : decode cX0_endMove 70 = .ok (.iadd, 1) := k_96 zcX0_endMove rfl rfl
theorem dX0_endMove_71 : decode cX0_endMove 71 = .ok (.istore_n 2, 1) := k_61 zcX0_endMove rfl rfl
theorem dX0_endMove_72 : decode cX0_endMove 72 = .ok (.aload_n 0, 1) := k_42 zcX0_endMove rfl rfl
theorem dX0_endMove_73 : decode cX0_endMove 73 = .ok (.getfield 21, 3) := k_180 zcX0_endMove rfl rfl rfl
theorem dX0_endMove_76 : decode cX0_endMove 76 = .ok (.ifCond .ne 21, 3) := k_154 zcX0_endMove rfl rfl rfl
theorem dX0_endMove_79 : decode cX0_endMove 79 = .ok (.aload_n 0, 1) := k_42 zcX0_endMove rfl rfl
theorem dX0_endMove_80 : decode cX0_endMove 80 = .ok (.dup, 1) := k_89 zcX0_endMove rfl rfl
theorem dX0_endMove_81 : decode cX0_endMove 81 = .ok (.getfield 9, 3) := k_180 zcX0_endMove rfl rfl rfl
theorem dX0_endMove_84 : decode cX0_endMove 84 = .ok (.aload_n 0, 1) := k_42 zcX0_endMove rfl rfl
theorem dX0_endMove_85 : decode cX0_endMove 85 = .ok (.getfield 15, 3) := k_180 zcX0_endMove rfl rfl rfl
theorem dX0_endMove_88 : decode cX0_endMove 88 = .ok (.iadd, 1) := k_96 zcX0_endMove rfl rfl
theorem dX0_endMove_89 : decode cX0_endMove 89 = .ok (.putfield 9, 3) := k_181 zcX0_endMove rfl rfl rfl
theorem dX0_endMove_92 : decode cX0_endMove 92 = .ok (.aload_n 0, 1) := k_42 zcX0_endMove rfl rfl
theorem dX0_endMove_93 : decode cX0_endMove 93 = .ok (.iconst 0, 1) := k_3 zcX0_endMove rfl rfl
theorem dX0_endMove_94 : decode cX0_endMove 94 = .ok (.putfield 15, 3) := k_181 zcX0_endMove rfl rfl rfl
theorem dX0_endMove_97 : decode cX0_endMove 97 = .ok (.aload_n 0, 1) := k_42 zcX0_endMove rfl rfl
theorem dX0_endMove_98 : decode cX0_endMove 98 = .ok (.iload_n 2, 1) := k_28 zcX0_endMove rfl rfl
theorem dX0_endMove_99 : decode cX0_endMove 99 = .ok (.putfield 24, 3) := k_181 zcX0_endMove rfl rfl rfl
theorem dX0_endMove_102 : decode cX0_endMove 102 = .ok (.aload_n 0, 1) := k_42 zcX0_endMove rfl rfl
theorem dX0_endMove_103 : decode cX0_endMove 103 = .ok (.dup, 1) := k_89 zcX0_endMove rfl rfl
theorem dX0_endMove_104 : decode cX0_endMove 104 = .ok (.getfield 27, 3) := k_180 zcX0_endMove rfl rfl rfl
theorem dX0_endMove_107 : decode cX0_endMove 107 = .ok (.iload_n 2, 1) := k_28 zcX0_endMove rfl rfl
theorem dX0_endMove_108 : decode cX0_endMove 108 = .ok (.iadd, 1) := k_96 zcX0_endMove rfl rfl
theorem dX0_endMove_109 : decode cX0_endMove 109 = .ok (.putfield 27, 3) := k_181 zcX0_endMove rfl rfl rfl
theorem dX0_endMove_112 : decode cX0_endMove 112 = .ok (.aload_n 0, 1) := k_42 zcX0_endMove rfl rfl
theorem dX0_endMove_113 : decode cX0_endMove 113 = .ok (.aload_n 0, 1) := k_42 zcX0_endMove rfl rfl
theorem dX0_endMove_114 : decode cX0_endMove 114 = .ok (.getfield 30, 3) := k_180 zcX0_endMove rfl rfl rfl
theorem dX0_endMove_117 : decode cX0_endMove 117 = .ok (.iload_n 2, 1) := k_28 zcX0_endMove rfl rfl
theorem dX0_endMove_118 : decode cX0_endMove 118 = .ok (.invokestatic 37, 3) := k_184 zcX0_endMove rfl rfl rfl
theorem dX0_endMove_121 : decode cX0_endMove 121 = .ok (.putfield 30, 3) := k_181 zcX0_endMove rfl rfl rfl
theorem dX0_endMove_124 : decode cX0_endMove 124 = .ok (.return_, 1) := k_177 zcX0_endMove rfl rfl
theorem dX0_told_0 : decode cX0_told 0 = .ok (.iload_n 1, 1) := k_27 zcX0_told rfl rfl
theorem dX0_told_1 : decode cX0_told 1 = .ok (.tableswitch 78 0 6 #[43, 48, 53, 58, 63, 68, 73], 43) := by decide +kernel
theorem dX0_told_44 : decode cX0_told 44 = .ok (.aload_n 0, 1) := k_42 zcX0_told rfl rfl
theorem dX0_told_45 : decode cX0_told 45 = .ok (.getfield 9, 3) := k_180 zcX0_told rfl rfl rfl
theorem dX0_told_48 : decode cX0_told 48 = .ok (.ireturn, 1) := k_172 zcX0_told rfl rfl
theorem dX0_told_49 : decode cX0_told 49 = .ok (.aload_n 0, 1) := k_42 zcX0_told rfl rfl
theorem dX0_told_50 : decode cX0_told 50 = .ok (.getfield 15, 3) := k_180 zcX0_told rfl rfl rfl
theorem dX0_told_53 : decode cX0_told 53 = .ok (.ireturn, 1) := k_172 zcX0_told rfl rfl
theorem dX0_told_54 : decode cX0_told 54 = .ok (.aload_n 0, 1) := k_42 zcX0_told rfl rfl
theorem dX0_told_55 : decode cX0_told 55 = .ok (.getfield 18, 3) := k_180 zcX0_told rfl rfl rfl
theorem dX0_told_58 : decode cX0_told 58 = .ok (.ireturn, 1) := k_172 zcX0_told rfl rfl
theorem dX0_told_59 : decode cX0_told 59 = .ok (.aload_n 0, 1) := k_42 zcX0_told rfl rfl
theorem dX0_told_60 : decode cX0_told 60 = .ok (.getfield 21, 3) := k_180 zcX0_told rfl rfl rfl
theorem dX0_told_63 : decode cX0_told 63 = .ok (.ireturn, 1) := k_172 zcX0_told rfl rfl
theorem dX0_told_64 : decode cX0_told 64 = .ok (.aload_n 0, 1) := k_42 zcX0_told rfl rfl
theorem dX0_told_65 : decode cX0_told 65 = .ok (.getfield 24, 3) := k_180 zcX0_told rfl rfl rfl
theorem dX0_told_68 : decode cX0_told 68 = .ok (.ireturn, 1) := k_172 zcX0_told rfl rfl
theorem dX0_told_69 : decode cX0_told 69 = .ok (.aload_n 0, 1) := k_42 zcX0_told rfl rfl
theorem dX0_told_70 : decode cX0_told 70 = .ok (.getfield 27, 3) := k_180 zcX0_told rfl rfl rfl
theorem dX0_told_73 : decode cX0_told 73 = .ok (.ireturn, 1) := k_172 zcX0_told rfl rfl
theorem dX0_told_74 : decode cX0_told 74 = .ok (.aload_n 0, 1) := k_42 zcX0_told rfl rfl
theorem dX0_told_75 : decode cX0_told 75 = .ok (.getfield 30, 3) := k_180 zcX0_told rfl rfl rfl
theorem dX0_told_78 : decode cX0_told 78 = .ok (.ireturn, 1) := k_172 zcX0_told rfl rfl
theorem dX0_told_79 : decode cX0_told 79 = .ok (.iconst (-1), 1) := k_2 zcX0_told rfl rfl
theorem dX0_told_80 : decode cX0_told 80 = .ok (.ireturn, 1) := k_172 zcX0_told rfl rfl
theorem dX1_init_0 : decode cX1_init 0 = .ok (.aload_n 0, 1) := k_42 zcX1_init rfl rfl
theorem dX1_init_1 : decode cX1_init 1 = .ok (.invokespecial 3, 3) := k_183 zcX1_init rfl rfl rfl
theorem dX1_init_4 : decode cX1_init 4 = .ok (.aload_n 0, 1) := k_42 zcX1_init rfl rfl
theorem dX1_init_5 : decode cX1_init 5 = .ok (.bipush 16, 2) := k_16 zcX1_init rfl rfl rfl
theorem dX1_init_7 : decode cX1_init 7 = .ok (.newarray .int, 2) := k_188 zcX1_init rfl rfl rfl
theorem dX1_init_9 : decode cX1_init 9 = .ok (.putfield 9, 3) := k_181 zcX1_init rfl rfl rfl
theorem dX1_init_12 : decode cX1_init 12 = .ok (.aload_n 0, 1) := k_42 zcX1_init rfl rfl
theorem dX1_init_13 : decode cX1_init 13 = .ok (.bipush 8, 2) := k_16 zcX1_init rfl rfl rfl
theorem dX1_init_15 : decode cX1_init 15 = .ok (.newarray .int, 2) := k_188 zcX1_init rfl rfl rfl
theorem dX1_init_17 : decode cX1_init 17 = .ok (.putfield 15, 3) := k_181 zcX1_init rfl rfl rfl
theorem dX1_init_20 : decode cX1_init 20 = .ok (.aload_n 0, 1) := k_42 zcX1_init rfl rfl
theorem dX1_init_21 : decode cX1_init 21 = .ok (.getfield 15, 3) := k_180 zcX1_init rfl rfl rfl
theorem dX1_init_24 : decode cX1_init 24 = .ok (.sipush 228, 3) := k_17 zcX1_init rfl rfl rfl
theorem dX1_init_27 : decode cX1_init 27 = .ok (.invokestatic 18, 3) := k_184 zcX1_init rfl rfl rfl
theorem dX1_init_30 : decode cX1_init 30 = .ok (.aload_n 0, 1) := k_42 zcX1_init rfl rfl
theorem dX1_init_31 : decode cX1_init 31 = .ok (.bipush 7, 2) := k_16 zcX1_init rfl rfl rfl
theorem dX1_init_33 : decode cX1_init 33 = .ok (.newarray .int, 2) := k_188 zcX1_init rfl rfl rfl
theorem dX1_init_35 : decode cX1_init 35 = .ok (.putfield 24, 3) := k_181 zcX1_init rfl rfl rfl
theorem dX1_init_38 : decode cX1_init 38 = .ok (.aload_n 0, 1) := k_42 zcX1_init rfl rfl
theorem dX1_init_39 : decode cX1_init 39 = .ok (.bipush 7, 2) := k_16 zcX1_init rfl rfl rfl
theorem dX1_init_41 : decode cX1_init 41 = .ok (.newarray .int, 2) := k_188 zcX1_init rfl rfl rfl
theorem dX1_init_43 : decode cX1_init 43 = .ok (.putfield 27, 3) := k_181 zcX1_init rfl rfl rfl
theorem dX1_init_46 : decode cX1_init 46 = .ok (.return_, 1) := k_177 zcX1_init rfl rfl
theorem dX1_begin_0 : decode cX1_begin 0 = .ok (.aload_n 0, 1) := k_42 zcX1_begin rfl rfl
theorem dX1_begin_1 : decode cX1_begin 1 = .ok (.iload_n 1, 1) := k_27 zcX1_begin rfl rfl
theorem dX1_begin_2 : decode cX1_begin 2 = .ok (.putfield 30, 3) := k_181 zcX1_begin rfl rfl rfl
theorem dX1_begin_5 : decode cX1_begin 5 = .ok (.aload_n 0, 1) := k_42 zcX1_begin rfl rfl
theorem dX1_begin_6 : decode cX1_begin 6 = .ok (.iconst 0, 1) := k_3 zcX1_begin rfl rfl
theorem dX1_begin_7 : decode cX1_begin 7 = .ok (.putfield 34, 3) := k_181 zcX1_begin rfl rfl rfl
theorem dX1_begin_10 : decode cX1_begin 10 = .ok (.aload_n 0, 1) := k_42 zcX1_begin rfl rfl
theorem dX1_begin_11 : decode cX1_begin 11 = .ok (.iconst 0, 1) := k_3 zcX1_begin rfl rfl
theorem dX1_begin_12 : decode cX1_begin 12 = .ok (.putfield 37, 3) := k_181 zcX1_begin rfl rfl rfl
theorem dX1_begin_15 : decode cX1_begin 15 = .ok (.aload_n 0, 1) := k_42 zcX1_begin rfl rfl
theorem dX1_begin_16 : decode cX1_begin 16 = .ok (.getfield 24, 3) := k_180 zcX1_begin rfl rfl rfl
theorem dX1_begin_19 : decode cX1_begin 19 = .ok (.iconst 0, 1) := k_3 zcX1_begin rfl rfl
theorem dX1_begin_20 : decode cX1_begin 20 = .ok (.invokestatic 18, 3) := k_184 zcX1_begin rfl rfl rfl
theorem dX1_begin_23 : decode cX1_begin 23 = .ok (.iload_n 1, 1) := k_27 zcX1_begin rfl rfl
theorem dX1_begin_24 : decode cX1_begin 24 = .ok (.iconst 2, 1) := k_5 zcX1_begin rfl rfl
theorem dX1_begin_25 : decode cX1_begin 25 = .ok (.if_icmp .ne 13, 3) := k_160 zcX1_begin rfl rfl rfl
theorem dX1_begin_28 : decode cX1_begin 28 = .ok (.aload_n 0, 1) := k_42 zcX1_begin rfl rfl
theorem dX1_begin_29 : decode cX1_begin 29 = .ok (.getfield 24, 3) := k_180 zcX1_begin rfl rfl rfl
theorem dX1_begin_32 : decode cX1_begin 32 = .ok (.iconst 0, 1) := k_3 zcX1_begin rfl rfl
theorem dX1_begin_33 : decode cX1_begin 33 = .ok (.iconst 1, 1) := k_4 zcX1_begin rfl rfl
theorem dX1_begin_34 : decode cX1_begin 34 = .ok (.iastore, 1) := k_79 zcX1_begin rfl rfl
theorem dX1_begin_35 : decode cX1_begin 35 = .ok (.goto 53, 3) := k_167 zcX1_begin rfl rfl rfl
theorem dX1_begin_38 : decode cX1_begin 38 = .ok (.iload_n 1, 1) := k_27 zcX1_begin rfl rfl
theorem dX1_begin_39 : decode cX1_begin 39 = .ok (.iconst 4, 1) := k_7 zcX1_begin rfl rfl
theorem dX1_begin_40 : decode cX1_begin 40 = .ok (.if_icmp .ne 26, 3) := k_160 zcX1_begin rfl rfl rfl
theorem dX1_begin_43 : decode cX1_begin 43 = .ok (.iconst 0, 1) := k_3 zcX1_begin rfl rfl
theorem dX1_begin_44 : decode cX1_begin 44 = .ok (.istore_n 2, 1) := k_61 zcX1_begin rfl rfl
theorem dX1_begin_45 : decode cX1_begin 45 = .ok (.iload_n 2, 1) := k_28 zcX1_begin rfl rfl
theorem dX1_begin_46 : decode cX1_begin 46 = .ok (.iconst 4, 1) := k_7 zcX1_begin rfl rfl
theorem dX1_begin_47 : decode cX1_begin 47 = .ok (.if_icmp .ge 16, 3) := k_162 zcX1_begin rfl rfl rfl
theorem dX1_begin_50 : decode cX1_begin 50 = .ok (.aload_n 0, 1) := k_42 zcX1_begin rfl rfl
theorem dX1_begin_51 : decode cX1_begin 51 = .ok (.getfield 24, 3) := k_180 zcX1_begin rfl rfl rfl
theorem dX1_begin_54 : decode cX1_begin 54 = .ok (.iload_n 2, 1) := k_28 zcX1_begin rfl rfl
theorem dX1_begin_55 : decode cX1_begin 55 = .ok (.iload_n 2, 1) := k_28 zcX1_begin rfl rfl
theorem dX1_begin_56 : decode cX1_begin 56 = .ok (.iastore, 1) := k_79 zcX1_begin rfl rfl
theorem dX1_begin_57 : decode cX1_begin 57 = .ok (.iinc 2 1, 3) := k_132 zcX1_begin rfl rfl rfl rfl
theorem dX1_begin_60 : decode cX1_begin 60 = .ok (.goto (-15), 3) := k_167 zcX1_begin rfl rfl rfl
theorem dX1_begin_63 : decode cX1_begin 63 = .ok (.goto 25, 3) := k_167 zcX1_begin rfl rfl rfl
theorem dX1_begin_66 : decode cX1_begin 66 = .ok (.iload_n 1, 1) := k_27 zcX1_begin rfl rfl
theorem dX1_begin_67 : decode cX1_begin 67 = .ok (.bipush 8, 2) := k_16 zcX1_begin rfl rfl rfl
theorem dX1_begin_69 : decode cX1_begin 69 = .ok (.if_icmp .ne 19, 3) := k_160 zcX1_begin rfl rfl rfl
theorem dX1_begin_72 : decode cX1_begin 72 = .ok (.aload_n 0, 1) := k_42 zcX1_begin rfl rfl
theorem dX1_begin_73 : decode cX1_begin 73 = .ok (.getfield 24, 3) := k_180 zcX1_begin rfl rfl rfl
theorem dX1_begin_76 : decode cX1_begin 76 = .ok (.iconst 0, 1) := k_3 zcX1_begin rfl rfl
theorem dX1_begin_77 : decode cX1_begin 77 = .ok (.ldc 40, 2) := k_18 zcX1_begin rfl rfl rfl
theorem dX1_begin_79 : decode cX1_begin 79 = .ok (.iastore, 1) := k_79 zcX1_begin rfl rfl
theorem dX1_begin_80 : decode cX1_begin 80 = .ok (.aload_n 0, 1) := k_42 zcX1_begin rfl rfl
theorem dX1_begin_81 : decode cX1_begin 81 = .ok (.getfield 24, 3) := k_180 zcX1_begin rfl rfl rfl
theorem dX1_begin_84 : decode cX1_begin 84 = .ok (.iconst 1, 1) := k_4 zcX1_begin rfl rfl
theorem dX1_begin_85 : decode cX1_begin 85 = .ok (.ldc 40, 2) := k_18 zcX1_begin rfl rfl rfl
theorem dX1_begin_87 : decode cX1_begin 87 = .ok (.iastore, 1) := k_79 zcX1_begin rfl rfl
theorem dX1_begin_88 : decode cX1_begin 88 = .ok (.return_, 1) := k_177 zcX1_begin rfl rfl
theorem dX1_number_0 : decode cX1_number 0 = .ok (.aload_n 0, 1) := k_42 zcX1_number rfl rfl
theorem dX1_number_1 : decode cX1_number 1 = .ok (.getfield 34, 3) := k_180 zcX1_number rfl rfl rfl
theorem dX1_number_4 : decode cX1_number 4 = .ok (.ifCond .eq 19, 3) := k_153 zcX1_number rfl rfl rfl
theorem dX1_number_7 : decode cX1_number 7 = .ok (.iload_n 1, 1) := k_27 zcX1_number rfl rfl
theorem dX1_number_8 : decode cX1_number 8 = .ok (.ifCond .lt 15, 3) := k_155 zcX1_number rfl rfl rfl
theorem dX1_number_11 : decode cX1_number 11 = .ok (.iload_n 1, 1) := k_27 zcX1_number rfl rfl
theorem dX1_number_12 : decode cX1_number 12 = .ok (.getstatic 41, 3) := k_178 zcX1_number rfl rfl rfl
theorem dX1_number_15 : decode cX1_number 15 = .ok (.aload_n 0, 1) := k_42 zcX1_number rfl rfl
theorem dX1_number_16 : decode cX1_number 16 = .ok (.getfield 30, 3) := k_180 zcX1_number rfl rfl rfl
theorem dX1_number_19 : decode cX1_number 19 = .ok (.iaload, 1) := k_46 zcX1_number rfl rfl
theorem dX1_number_20 : decode cX1_number 20 = .ok (.if_icmp .lt 8, 3) := k_161 zcX1_number rfl rfl rfl
theorem dX1_number_23 : decode cX1_number 23 = .ok (.ldc 40, 2) := k_18 zcX1_number rfl rfl rfl
theorem dX1_number_25 : decode cX1_number 25 = .ok (.goto 9, 3) := k_167 zcX1_number rfl rfl rfl
theorem dX1_number_28 : decode cX1_number 28 = .ok (.aload_n 0, 1) := k_42 zcX1_number rfl rfl
theorem dX1_number_29 : decode cX1_number 29 = .ok (.getfield 24, 3) := k_180 zcX1_number rfl rfl rfl
theorem dX1_number_32 : decode cX1_number 32 = .ok (.iload_n 1, 1) := k_27 zcX1_number rfl rfl
theorem dX1_number_33 : decode cX1_number 33 = .ok (.iaload, 1) := k_46 zcX1_number rfl rfl
theorem dX1_number_34 : decode cX1_number 34 = .ok (.ireturn, 1) := k_172 zcX1_number rfl rfl
theorem dX1_reaches_0 : decode cX1_reaches 0 = .ok (.aload_n 0, 1) := k_42 zcX1_reaches rfl rfl
theorem dX1_reaches_1 : decode cX1_reaches 1 = .ok (.iload_n 1, 1) := k_27 zcX1_reaches rfl rfl
theorem dX1_reaches_2 : decode cX1_reaches 2 = .ok (.invokevirtual 44, 3) := k_182 zcX1_reaches rfl rfl rfl
theorem dX1_reaches_5 : decode cX1_reaches 5 = .ok (.istore_n 3, 1) := k_62 zcX1_reaches rfl rfl
theorem dX1_reaches_6 : decode cX1_reaches 6 = .ok (.iload_n 3, 1) := k_29 zcX1_reaches rfl rfl
theorem dX1_reaches_7 : decode cX1_reaches 7 = .ok (.ldc 40, 2) := k_18 zcX1_reaches rfl rfl rfl
theorem dX1_reaches_9 : decode cX1_reaches 9 = .ok (.if_icmp .eq 12, 3) := k_159 zcX1_reaches rfl rfl rfl
theorem dX1_reaches_12 : decode cX1_reaches 12 = .ok (.iload_n 3, 1) := k_29 zcX1_reaches rfl rfl
theorem dX1_reaches_13 : decode cX1_reaches 13 = .ok (.iload_n 2, 1) := k_28 zcX1_reaches rfl rfl
theorem dX1_reaches_14 : decode cX1_reaches 14 = .ok (.if_icmp .lt 7, 3) := k_161 zcX1_reaches rfl rfl rfl
theorem dX1_reaches_17 : decode cX1_reaches 17 = .ok (.iconst 1, 1) := k_4 zcX1_reaches rfl rfl
theorem dX1_reaches_18 : decode cX1_reaches 18 = .ok (.goto 4, 3) := k_167 zcX1_reaches rfl rfl rfl
theorem dX1_reaches_21 : decode cX1_reaches 21 = .ok (.iconst 0, 1) := k_3 zcX1_reaches rfl rfl
theorem dX1_reaches_22 : decode cX1_reaches 22 = .ok (.ireturn, 1) := k_172 zcX1_reaches rfl rfl
theorem dX1_noteNumbers_0 : decode cX1_noteNumbers 0 = .ok (.aload_n 0, 1) := k_42 zcX1_noteNumbers rfl rfl
theorem dX1_noteNumbers_1 : decode cX1_noteNumbers 1 = .ok (.getfield 24, 3) := k_180 zcX1_noteNumbers rfl rfl rfl
theorem dX1_noteNumbers_4 : decode cX1_noteNumbers 4 = .ok (.iconst 0, 1) := k_3 zcX1_noteNumbers rfl rfl
theorem dX1_noteNumbers_5 : decode cX1_noteNumbers 5 = .ok (.aload_n 0, 1) := k_42 zcX1_noteNumbers rfl rfl
theorem dX1_noteNumbers_6 : decode cX1_noteNumbers 6 = .ok (.getfield 27, 3) := k_180 zcX1_noteNumbers rfl rfl rfl
theorem dX1_noteNumbers_9 : decode cX1_noteNumbers 9 = .ok (.iconst 0, 1) := k_3 zcX1_noteNumbers rfl rfl
theorem dX1_noteNumbers_10 : decode cX1_noteNumbers 10 = .ok (.bipush 7, 2) := k_16 zcX1_noteNumbers rfl rfl rfl
theorem dX1_noteNumbers_12 : decode cX1_noteNumbers 12 = .ok (.invokestatic 48, 3) := k_184 zcX1_noteNumbers rfl rfl rfl
theorem dX1_noteNumbers_15 : decode cX1_noteNumbers 15 = .ok (.aload_n 0, 1) := k_42 zcX1_noteNumbers rfl rfl
theorem dX1_noteNumbers_16 : decode cX1_noteNumbers 16 = .ok (.aload_n 0, 1) := k_42 zcX1_noteNumbers rfl rfl
theorem dX1_noteNumbers_17 : decode cX1_noteNumbers 17 = .ok (.getfield 34, 3) := k_180 zcX1_noteNumbers rfl rfl rfl
theorem dX1_noteNumbers_20 : decode cX1_noteNumbers 20 = .ok (.putfield 54, 3) := k_181 zcX1_noteNumbers rfl rfl rfl
theorem dX1_noteNumbers_23 : decode cX1_noteNumbers 23 = .ok (.return_, 1) := k_177 zcX1_noteNumbers rfl rfl
theorem dX1_isAsNoted_0 : decode cX1_isAsNoted 0 = .ok (.aload_n 0, 1) := k_42 zcX1_isAsNoted rfl rfl
theorem dX1_isAsNoted_1 : decode cX1_isAsNoted 1 = .ok (.getfield 34, 3) := k_180 zcX1_isAsNoted rfl rfl rfl
theorem dX1_isAsNoted_4 : decode cX1_isAsNoted 4 = .ok (.ifCond .eq 10, 3) := k_153 zcX1_isAsNoted rfl rfl rfl
theorem dX1_isAsNoted_7 : decode cX1_isAsNoted 7 = .ok (.aload_n 0, 1) := k_42 zcX1_isAsNoted rfl rfl
theorem dX1_isAsNoted_8 : decode cX1_isAsNoted 8 = .ok (.getfield 54, 3) := k_180 zcX1_isAsNoted rfl rfl rfl
theorem dX1_isAsNoted_11 : decode cX1_isAsNoted 11 = .ok (.ifCond .ne 20, 3) := k_154 zcX1_isAsNoted rfl rfl rfl
theorem dX1_isAsNoted_14 : decode cX1_isAsNoted 14 = .ok (.aload_n 0, 1) := k_42 zcX1_isAsNoted rfl rfl
theorem dX1_isAsNoted_15 : decode cX1_isAsNoted 15 = .ok (.getfield 34, 3) := k_180 zcX1_isAsNoted rfl rfl rfl
theorem dX1_isAsNoted_18 : decode cX1_isAsNoted 18 = .ok (.aload_n 0, 1) := k_42 zcX1_isAsNoted rfl rfl
theorem dX1_isAsNoted_19 : decode cX1_isAsNoted 19 = .ok (.getfield 54, 3) := k_180 zcX1_isAsNoted rfl rfl rfl
theorem dX1_isAsNoted_22 : decode cX1_isAsNoted 22 = .ok (.if_icmp .ne 7, 3) := k_160 zcX1_isAsNoted rfl rfl rfl
theorem dX1_isAsNoted_25 : decode cX1_isAsNoted 25 = .ok (.iconst 1, 1) := k_4 zcX1_isAsNoted rfl rfl
theorem dX1_isAsNoted_26 : decode cX1_isAsNoted 26 = .ok (.goto 4, 3) := k_167 zcX1_isAsNoted rfl rfl rfl
theorem dX1_isAsNoted_29 : decode cX1_isAsNoted 29 = .ok (.iconst 0, 1) := k_3 zcX1_isAsNoted rfl rfl
theorem dX1_isAsNoted_30 : decode cX1_isAsNoted 30 = .ok (.ireturn, 1) := k_172 zcX1_isAsNoted rfl rfl
theorem dX1_isAsNoted_31 : decode cX1_isAsNoted 31 = .ok (.iconst 0, 1) := k_3 zcX1_isAsNoted rfl rfl
theorem dX1_isAsNoted_32 : decode cX1_isAsNoted 32 = .ok (.istore_n 1, 1) := k_60 zcX1_isAsNoted rfl rfl
theorem dX1_isAsNoted_33 : decode cX1_isAsNoted 33 = .ok (.iload_n 1, 1) := k_27 zcX1_isAsNoted rfl rfl
theorem dX1_isAsNoted_34 : decode cX1_isAsNoted 34 = .ok (.getstatic 41, 3) := k_178 zcX1_isAsNoted rfl rfl rfl
theorem dX1_isAsNoted_37 : decode cX1_isAsNoted 37 = .ok (.aload_n 0, 1) := k_42 zcX1_isAsNoted rfl rfl
theorem dX1_isAsNoted_38 : decode cX1_isAsNoted 38 = .ok (.getfield 30, 3) := k_180 zcX1_isAsNoted rfl rfl rfl
theorem dX1_isAsNoted_41 : decode cX1_isAsNoted 41 = .ok (.iaload, 1) := k_46 zcX1_isAsNoted rfl rfl
theorem dX1_isAsNoted_42 : decode cX1_isAsNoted 42 = .ok (.if_icmp .ge 26, 3) := k_162 zcX1_isAsNoted rfl rfl rfl
theorem dX1_isAsNoted_45 : decode cX1_isAsNoted 45 = .ok (.aload_n 0, 1) := k_42 zcX1_isAsNoted rfl rfl
theorem dX1_isAsNoted_46 : decode cX1_isAsNoted 46 = .ok (.getfield 24, 3) := k_180 zcX1_isAsNoted rfl rfl rfl
theorem dX1_isAsNoted_49 : decode cX1_isAsNoted 49 = .ok (.iload_n 1, 1) := k_27 zcX1_isAsNoted rfl rfl
theorem dX1_isAsNoted_50 : decode cX1_isAsNoted 50 = .ok (.iaload, 1) := k_46 zcX1_isAsNoted rfl rfl
theorem dX1_isAsNoted_51 : decode cX1_isAsNoted 51 = .ok (.aload_n 0, 1) := k_42 zcX1_isAsNoted rfl rfl
theorem dX1_isAsNoted_52 : decode cX1_isAsNoted 52 = .ok (.getfield 27, 3) := k_180 zcX1_isAsNoted rfl rfl rfl
theorem dX1_isAsNoted_55 : decode cX1_isAsNoted 55 = .ok (.iload_n 1, 1) := k_27 zcX1_isAsNoted rfl rfl
theorem dX1_isAsNoted_56 : decode cX1_isAsNoted 56 = .ok (.iaload, 1) := k_46 zcX1_isAsNoted rfl rfl
theorem dX1_isAsNoted_57 : decode cX1_isAsNoted 57 = .ok (.if_icmp .eq 5, 3) := k_159 zcX1_isAsNoted rfl rfl rfl
theorem dX1_isAsNoted_60 : decode cX1_isAsNoted 60 = .ok (.iconst 0, 1) := k_3 zcX1_isAsNoted rfl rfl
theorem dX1_isAsNoted_61 : decode cX1_isAsNoted 61 = .ok (.ireturn, 1) := k_172 zcX1_isAsNoted rfl rfl
theorem dX1_isAsNoted_62 : decode cX1_isAsNoted 62 = .ok (.iinc 1 1, 3) := k_132 zcX1_isAsNoted rfl rfl rfl rfl
theorem dX1_isAsNoted_65 : decode cX1_isAsNoted 65 = .ok (.goto (-32), 3) := k_167 zcX1_isAsNoted rfl rfl rfl
theorem dX1_isAsNoted_68 : decode cX1_isAsNoted 68 = .ok (.iconst 1, 1) := k_4 zcX1_isAsNoted rfl rfl
theorem dX1_isAsNoted_69 : decode cX1_isAsNoted 69 = .ok (.ireturn, 1) := k_172 zcX1_isAsNoted rfl rfl
theorem dX1_append_0 : decode cX1_append 0 = .ok (.aload_n 0, 1) := k_42 zcX1_append rfl rfl
theorem dX1_append_1 : decode cX1_append 1 = .ok (.getfield 30, 3) := k_180 zcX1_append rfl rfl rfl
theorem dX1_append_4 : decode cX1_append 4 = .ok (.tableswitch 124 0 8 #[52, 60, 68, 76, 84, 92, 100, 108, 116], 52) := by decide +kernel
theorem dX1_append_56 : decode cX1_append 56 = .ok (.aload_n 0, 1) := k_42 zcX1_append rfl rfl
theorem dX1_append_57 : decode cX1_append 57 = .ok (.iload_n 1, 1) := k_27 zcX1_append rfl rfl
theorem dX1_append_58 : decode cX1_append 58 = .ok (.invokevirtual 57, 3) := k_182 zcX1_append rfl rfl rfl
theorem dX1_append_61 : decode cX1_append 61 = .ok (.goto 72, 3) := k_167 zcX1_append rfl rfl rfl
theorem dX1_append_64 : decode cX1_append 64 = .ok (.aload_n 0, 1) := k_42 zcX1_append rfl rfl
theorem dX1_append_65 : decode cX1_append 65 = .ok (.iload_n 1, 1) := k_27 zcX1_append rfl rfl
theorem dX1_append_66 : decode cX1_append 66 = .ok (.invokevirtual 61, 3) := k_182 zcX1_append rfl rfl rfl
theorem dX1_append_69 : decode cX1_append 69 = .ok (.goto 64, 3) := k_167 zcX1_append rfl rfl rfl
theorem dX1_append_72 : decode cX1_append 72 = .ok (.aload_n 0, 1) := k_42 zcX1_append rfl rfl
theorem dX1_append_73 : decode cX1_append 73 = .ok (.iload_n 1, 1) := k_27 zcX1_append rfl rfl
theorem dX1_append_74 : decode cX1_append 74 = .ok (.invokevirtual 64, 3) := k_182 zcX1_append rfl rfl rfl
theorem dX1_append_77 : decode cX1_append 77 = .ok (.goto 56, 3) := k_167 zcX1_append rfl rfl rfl
theorem dX1_append_80 : decode cX1_append 80 = .ok (.aload_n 0, 1) := k_42 zcX1_append rfl rfl
theorem dX1_append_81 : decode cX1_append 81 = .ok (.iload_n 1, 1) := k_27 zcX1_append rfl rfl
theorem dX1_append_82 : decode cX1_append 82 = .ok (.invokevirtual 67, 3) := k_182 zcX1_append rfl rfl rfl
theorem dX1_append_85 : decode cX1_append 85 = .ok (.goto 48, 3) := k_167 zcX1_append rfl rfl rfl
theorem dX1_append_88 : decode cX1_append 88 = .ok (.aload_n 0, 1) := k_42 zcX1_append rfl rfl
theorem dX1_append_89 : decode cX1_append 89 = .ok (.iload_n 1, 1) := k_27 zcX1_append rfl rfl
theorem dX1_append_90 : decode cX1_append 90 = .ok (.invokevirtual 70, 3) := k_182 zcX1_append rfl rfl rfl
theorem dX1_append_93 : decode cX1_append 93 = .ok (.goto 40, 3) := k_167 zcX1_append rfl rfl rfl
theorem dX1_append_96 : decode cX1_append 96 = .ok (.aload_n 0, 1) := k_42 zcX1_append rfl rfl
theorem dX1_append_97 : decode cX1_append 97 = .ok (.iload_n 1, 1) := k_27 zcX1_append rfl rfl
theorem dX1_append_98 : decode cX1_append 98 = .ok (.invokevirtual 73, 3) := k_182 zcX1_append rfl rfl rfl
theorem dX1_append_101 : decode cX1_append 101 = .ok (.goto 32, 3) := k_167 zcX1_append rfl rfl rfl
theorem dX1_append_104 : decode cX1_append 104 = .ok (.aload_n 0, 1) := k_42 zcX1_append rfl rfl
theorem dX1_append_105 : decode cX1_append 105 = .ok (.iload_n 1, 1) := k_27 zcX1_append rfl rfl
theorem dX1_append_106 : decode cX1_append 106 = .ok (.invokevirtual 76, 3) := k_182 zcX1_append rfl rfl rfl
theorem dX1_append_109 : decode cX1_append 109 = .ok (.goto 24, 3) := k_167 zcX1_append rfl rfl rfl
theorem dX1_append_112 : decode cX1_append 112 = .ok (.aload_n 0, 1) := k_42 zcX1_append rfl rfl
theorem dX1_append_113 : decode cX1_append 113 = .ok (.iload_n 1, 1) := k_27 zcX1_append rfl rfl
theorem dX1_append_114 : decode cX1_append 114 = .ok (.invokevirtual 79, 3) := k_182 zcX1_append rfl rfl rfl
theorem dX1_append_117 : decode cX1_append 117 = .ok (.goto 16, 3) := k_167 zcX1_append rfl rfl rfl
theorem dX1_append_120 : decode cX1_append 120 = .ok (.aload_n 0, 1) := k_42 zcX1_append rfl rfl
theorem dX1_append_121 : decode cX1_append 121 = .ok (.iload_n 1, 1) := k_27 zcX1_append rfl rfl
theorem dX1_append_122 : decode cX1_append 122 = .ok (.invokevirtual 82, 3) := k_182 zcX1_append rfl rfl rfl
theorem dX1_append_125 : decode cX1_append 125 = .ok (.goto 8, 3) := k_167 zcX1_append rfl rfl rfl
theorem dX1_append_128 : decode cX1_append 128 = .ok (.aload_n 0, 1) := k_42 zcX1_append rfl rfl
theorem dX1_append_129 : decode cX1_append 129 = .ok (.iload_n 1, 1) := k_27 zcX1_append rfl rfl
theorem dX1_append_130 : decode cX1_append 130 = .ok (.invokevirtual 85, 3) := k_182 zcX1_append rfl rfl rfl
theorem dX1_append_133 : decode cX1_append 133 = .ok (.aload_n 0, 1) := k_42 zcX1_append rfl rfl
theorem dX1_append_134 : decode cX1_append 134 = .ok (.dup, 1) := k_89 zcX1_append rfl rfl
theorem dX1_append_135 : decode cX1_append 135 = .ok (.getfield 34, 3) := k_180 zcX1_append rfl rfl rfl
theorem dX1_append_138 : decode cX1_append 138 = .ok (.iconst 1, 1) := k_4 zcX1_append rfl rfl
theorem dX1_append_139 : decode cX1_append 139 = .ok (.iadd, 1) := k_96 zcX1_append rfl rfl
theorem dX1_append_140 : decode cX1_append 140 = .ok (.putfield 34, 3) := k_181 zcX1_append rfl rfl rfl
theorem dX1_append_143 : decode cX1_append 143 = .ok (.return_, 1) := k_177 zcX1_append rfl rfl
theorem dX1_addGreatest_0 : decode cX1_addGreatest 0 = .ok (.aload_n 0, 1) := k_42 zcX1_addGreatest rfl rfl
theorem dX1_addGreatest_1 : decode cX1_addGreatest 1 = .ok (.getfield 34, 3) := k_180 zcX1_addGreatest rfl rfl rfl
theorem dX1_addGreatest_4 : decode cX1_addGreatest 4 = .ok (.ifCond .eq 13, 3) := k_153 zcX1_addGreatest rfl rfl rfl
theorem dX1_addGreatest_7 : decode cX1_addGreatest 7 = .ok (.iload_n 1, 1) := k_27 zcX1_addGreatest rfl rfl
theorem dX1_addGreatest_8 : decode cX1_addGreatest 8 = .ok (.aload_n 0, 1) := k_42 zcX1_addGreatest rfl rfl
theorem dX1_addGreatest_9 : decode cX1_addGreatest 9 = .ok (.getfield 24, 3) := k_180 zcX1_addGreatest rfl rfl rfl
theorem dX1_addGreatest_12 : decode cX1_addGreatest 12 = .ok (.iconst 0, 1) := k_3 zcX1_addGreatest rfl rfl
theorem dX1_addGreatest_13 : decode cX1_addGreatest 13 = .ok (.iaload, 1) := k_46 zcX1_addGreatest rfl rfl
theorem dX1_addGreatest_14 : decode cX1_addGreatest 14 = .ok (.if_icmp .le 30, 3) := k_164 zcX1_addGreatest rfl rfl rfl
theorem dX1_addGreatest_17 : decode cX1_addGreatest 17 = .ok (.aload_n 0, 1) := k_42 zcX1_addGreatest rfl rfl
theorem dX1_addGreatest_18 : decode cX1_addGreatest 18 = .ok (.getfield 24, 3) := k_180 zcX1_addGreatest rfl rfl rfl
theorem dX1_addGreatest_21 : decode cX1_addGreatest 21 = .ok (.iconst 0, 1) := k_3 zcX1_addGreatest rfl rfl
theorem dX1_addGreatest_22 : decode cX1_addGreatest 22 = .ok (.iload_n 1, 1) := k_27 zcX1_addGreatest rfl rfl
theorem dX1_addGreatest_23 : decode cX1_addGreatest 23 = .ok (.iastore, 1) := k_79 zcX1_addGreatest rfl rfl
theorem dX1_addGreatest_24 : decode cX1_addGreatest 24 = .ok (.aload_n 0, 1) := k_42 zcX1_addGreatest rfl rfl
theorem dX1_addGreatest_25 : decode cX1_addGreatest 25 = .ok (.getfield 24, 3) := k_180 zcX1_addGreatest rfl rfl rfl
theorem dX1_addGreatest_28 : decode cX1_addGreatest 28 = .ok (.iconst 1, 1) := k_4 zcX1_addGreatest rfl rfl
theorem dX1_addGreatest_29 : decode cX1_addGreatest 29 = .ok (.iconst 1, 1) := k_4 zcX1_addGreatest rfl rfl
theorem dX1_addGreatest_30 : decode cX1_addGreatest 30 = .ok (.iastore, 1) := k_79 zcX1_addGreatest rfl rfl
theorem dX1_addGreatest_31 : decode cX1_addGreatest 31 = .ok (.aload_n 0, 1) := k_42 zcX1_addGreatest rfl rfl
theorem dX1_addGreatest_32 : decode cX1_addGreatest 32 = .ok (.getfield 24, 3) := k_180 zcX1_addGreatest rfl rfl rfl
theorem dX1_addGreatest_35 : decode cX1_addGreatest 35 = .ok (.iconst 2, 1) := k_5 zcX1_addGreatest rfl rfl
theorem dX1_addGreatest_36 : decode cX1_addGreatest 36 = .ok (.aload_n 0, 1) := k_42 zcX1_addGreatest rfl rfl
theorem dX1_addGreatest_37 : decode cX1_addGreatest 37 = .ok (.getfield 34, 3) := k_180 zcX1_addGreatest rfl rfl rfl
theorem dX1_addGreatest_40 : decode cX1_addGreatest 40 = .ok (.iastore, 1) := k_79 zcX1_addGreatest rfl rfl
theorem dX1_addGreatest_41 : decode cX1_addGreatest 41 = .ok (.goto 23, 3) := k_167 zcX1_addGreatest rfl rfl rfl
theorem dX1_addGreatest_44 : decode cX1_addGreatest 44 = .ok (.iload_n 1, 1) := k_27 zcX1_addGreatest rfl rfl
theorem dX1_addGreatest_45 : decode cX1_addGreatest 45 = .ok (.aload_n 0, 1) := k_42 zcX1_addGreatest rfl rfl
theorem dX1_addGreatest_46 : decode cX1_addGreatest 46 = .ok (.getfield 24, 3) := k_180 zcX1_addGreatest rfl rfl rfl
theorem dX1_addGreatest_49 : decode cX1_addGreatest 49 = .ok (.iconst 0, 1) := k_3 zcX1_addGreatest rfl rfl
theorem dX1_addGreatest_50 : decode cX1_addGreatest 50 = .ok (.iaload, 1) := k_46 zcX1_addGreatest rfl rfl
theorem dX1_addGreatest_51 : decode cX1_addGreatest 51 = .ok (.if_icmp .ne 13, 3) := k_160 zcX1_addGreatest rfl rfl rfl
theorem dX1_addGreatest_54 : decode cX1_addGreatest 54 = .ok (.aload_n 0, 1) := k_42 zcX1_addGreatest rfl rfl
theorem dX1_addGreatest_55 : decode cX1_addGreatest 55 = .ok (.getfield 24, 3) := k_180 zcX1_addGreatest rfl rfl rfl
theorem dX1_addGreatest_58 : decode cX1_addGreatest 58 = .ok (.iconst 1, 1) := k_4 zcX1_addGreatest rfl rfl
theorem dX1_addGreatest_59 : decode cX1_addGreatest 59 = .ok (.dup2, 1) := k_92 zcX1_addGreatest rfl rfl
theorem dX1_addGreatest_60 : decode cX1_addGreatest 60 = .ok (.iaload, 1) := k_46 zcX1_addGreatest rfl rfl
theorem dX1_addGreatest_61 : decode cX1_addGreatest 61 = .ok (.iconst 1, 1) := k_4 zcX1_addGreatest rfl rfl
theorem dX1_addGreatest_62 : decode cX1_addGreatest 62 = .ok (.iadd, 1) := k_96 zcX1_addGreatest rfl rfl
theorem dX1_addGreatest_63 : decode cX1_addGreatest 63 = .ok (.iastore, 1) := k_79 zcX1_addGreatest rfl rfl
theorem dX1_addGreatest_64 : decode cX1_addGreatest 64 = .ok (.aload_n 0, 1) := k_42 zcX1_addGreatest rfl rfl
theorem dX1_addGreatest_65 : decode cX1_addGreatest 65 = .ok (.getfield 24, 3) := k_180 zcX1_addGreatest rfl rfl rfl
theorem dX1_addGreatest_68 : decode cX1_addGreatest 68 = .ok (.iconst 3, 1) := k_6 zcX1_addGreatest rfl rfl
theorem dX1_addGreatest_69 : decode cX1_addGreatest 69 = .ok (.aload_n 0, 1) := k_42 zcX1_addGreatest rfl rfl
theorem dX1_addGreatest_70 : decode cX1_addGreatest 70 = .ok (.getfield 34, 3) := k_180 zcX1_addGreatest rfl rfl rfl
theorem dX1_addGreatest_73 : decode cX1_addGreatest 73 = .ok (.iconst 1, 1) := k_4 zcX1_addGreatest rfl rfl
theorem dX1_addGreatest_74 : decode cX1_addGreatest 74 = .ok (.iadd, 1) := k_96 zcX1_addGreatest rfl rfl
theorem dX1_addGreatest_75 : decode cX1_addGreatest 75 = .ok (.iastore, 1) := k_79 zcX1_addGreatest rfl rfl
theorem dX1_addGreatest_76 : decode cX1_addGreatest 76 = .ok (.return_, 1) := k_177 zcX1_addGreatest rfl rfl
theorem dX1_addShare_0 : decode cX1_addShare 0 = .ok (.aload_n 0, 1) := k_42 zcX1_addShare rfl rfl
theorem dX1_addShare_1 : decode cX1_addShare 1 = .ok (.getfield 24, 3) := k_180 zcX1_addShare rfl rfl rfl
theorem dX1_addShare_4 : decode cX1_addShare 4 = .ok (.iconst 0, 1) := k_3 zcX1_addShare rfl rfl
theorem dX1_addShare_5 : decode cX1_addShare 5 = .ok (.iaload, 1) := k_46 zcX1_addShare rfl rfl
theorem dX1_addShare_6 : decode cX1_addShare 6 = .ok (.istore_n 2, 1) := k_61 zcX1_addShare rfl rfl
theorem dX1_addShare_7 : decode cX1_addShare 7 = .ok (.iload_n 1, 1) := k_27 zcX1_addShare rfl rfl
theorem dX1_addShare_8 : decode cX1_addShare 8 = .ok (.invokestatic 88, 3) := k_184 zcX1_addShare rfl rfl rfl
theorem dX1_addShare_11 : decode cX1_addShare 11 = .ok (.istore_n 3, 1) := k_62 zcX1_addShare rfl rfl
theorem dX1_addShare_12 : decode cX1_addShare 12 = .ok (.iconst 0, 1) := k_3 zcX1_addShare rfl rfl
theorem dX1_addShare_13 : decode cX1_addShare 13 = .ok (.istore 4, 2) := k_54 zcX1_addShare rfl rfl rfl
theorem dX1_addShare_15 : decode cX1_addShare 15 = .ok (.iload_n 3, 1) := k_29 zcX1_addShare rfl rfl
theorem dX1_addShare_16 : decode cX1_addShare 16 = .ok (.ifCond .eq 27, 3) := k_153 zcX1_addShare rfl rfl rfl
theorem dX1_addShare_19 : decode cX1_addShare 19 = .ok (.iload 4, 2) := k_21 zcX1_addShare rfl rfl rfl
theorem dX1_addShare_21 : decode cX1_addShare 21 = .ok (.sipush 1000, 3) := k_17 zcX1_addShare rfl rfl rfl
theorem dX1_addShare_24 : decode cX1_addShare 24 = .ok (.if_icmp .gt 19, 3) := k_163 zcX1_addShare rfl rfl rfl
theorem dX1_addShare_27 : decode cX1_addShare 27 = .ok (.iload_n 2, 1) := k_28 zcX1_addShare rfl rfl
theorem dX1_addShare_28 : decode cX1_addShare 28 = .ok (.iload_n 3, 1) := k_29 zcX1_addShare rfl rfl
theorem dX1_addShare_29 : decode cX1_addShare 29 = .ok (.irem, 1) := k_112 zcX1_addShare rfl rfl
theorem dX1_addShare_30 : decode cX1_addShare 30 = .ok (.istore 5, 2) := k_54 zcX1_addShare rfl rfl rfl
theorem dX1_addShare_32 : decode cX1_addShare 32 = .ok (.iload_n 3, 1) := k_29 zcX1_addShare rfl rfl
theorem dX1_addShare_33 : decode cX1_addShare 33 = .ok (.istore_n 2, 1) := k_61 zcX1_addShare rfl rfl
theorem dX1_addShare_34 : decode cX1_addShare 34 = .ok (.iload 5, 2) := k_21 zcX1_addShare rfl rfl rfl
theorem dX1_addShare_36 : decode cX1_addShare 36 = .ok (.istore_n 3, 1) := k_62 zcX1_addShare rfl rfl
theorem dX1_addShare_37 : decode cX1_addShare 37 = .ok (.iinc 4 1, 3) := k_132 zcX1_addShare rfl rfl rfl rfl
theorem dX1_addShare_40 : decode cX1_addShare 40 = .ok (.goto (-25), 3) := k_167 zcX1_addShare rfl rfl rfl
theorem dX1_addShare_43 : decode cX1_addShare 43 = .ok (.aload_n 0, 1) := k_42 zcX1_addShare rfl rfl
theorem dX1_addShare_44 : decode cX1_addShare 44 = .ok (.getfield 24, 3) := k_180 zcX1_addShare rfl rfl rfl
theorem dX1_addShare_47 : decode cX1_addShare 47 = .ok (.iconst 0, 1) := k_3 zcX1_addShare rfl rfl
theorem dX1_addShare_48 : decode cX1_addShare 48 = .ok (.iload_n 2, 1) := k_28 zcX1_addShare rfl rfl
theorem dX1_addShare_49 : decode cX1_addShare 49 = .ok (.iastore, 1) := k_79 zcX1_addShare rfl rfl
theorem dX1_addShare_50 : decode cX1_addShare 50 = .ok (.aload_n 0, 1) := k_42 zcX1_addShare rfl rfl
theorem dX1_addShare_51 : decode cX1_addShare 51 = .ok (.getfield 24, 3) := k_180 zcX1_addShare rfl rfl rfl
theorem dX1_addShare_54 : decode cX1_addShare 54 = .ok (.iconst 1, 1) := k_4 zcX1_addShare rfl rfl
theorem dX1_addShare_55 : decode cX1_addShare 55 = .ok (.dup2, 1) := k_92 zcX1_addShare rfl rfl
theorem dX1_addShare_56 : decode cX1_addShare 56 = .ok (.iaload, 1) := k_46 zcX1_addShare rfl rfl
theorem dX1_addShare_57 : decode cX1_addShare 57 = .ok (.iload_n 1, 1) := k_27 zcX1_addShare rfl rfl
theorem dX1_addShare_58 : decode cX1_addShare 58 = .ok (.ifCond .eq 7, 3) := k_153 zcX1_addShare rfl rfl rfl
theorem dX1_addShare_61 : decode cX1_addShare 61 = .ok (.iconst 1, 1) := k_4 zcX1_addShare rfl rfl
theorem dX1_addShare_62 : decode cX1_addShare 62 = .ok (.goto 4, 3) := k_167 zcX1_addShare rfl rfl rfl
theorem dX1_addShare_65 : decode cX1_addShare 65 = .ok (.iconst 0, 1) := k_3 zcX1_addShare rfl rfl
theorem dX1_addShare_66 : decode cX1_addShare 66 = .ok (.iadd, 1) := k_96 zcX1_addShare rfl rfl
theorem dX1_addShare_67 : decode cX1_addShare 67 = .ok (.iastore, 1) := k_79 zcX1_addShare rfl rfl
theorem dX1_addShare_68 : decode cX1_addShare 68 = .ok (.return_, 1) := k_177 zcX1_addShare rfl rfl
theorem dX1_addLine_0 : decode cX1_addLine 0 = .ok (.iload_n 1, 1) := k_27 zcX1_addLine rfl rfl
theorem dX1_addLine_1 : decode cX1_addLine 1 = .ok (.sipush 997, 3) := k_17 zcX1_addLine rfl rfl rfl
theorem dX1_addLine_4 : decode cX1_addLine 4 = .ok (.invokestatic 93, 3) := k_184 zcX1_addLine rfl rfl rfl
theorem dX1_addLine_7 : decode cX1_addLine 7 = .ok (.istore_n 2, 1) := k_61 zcX1_addLine rfl rfl
theorem dX1_addLine_8 : decode cX1_addLine 8 = .ok (.bipush 7, 2) := k_16 zcX1_addLine rfl rfl rfl
theorem dX1_addLine_10 : decode cX1_addLine 10 = .ok (.iload_n 1, 1) := k_27 zcX1_addLine rfl rfl
theorem dX1_addLine_11 : decode cX1_addLine 11 = .ok (.imul, 1) := k_104 zcX1_addLine rfl rfl
theorem dX1_addLine_12 : decode cX1_addLine 12 = .ok (.iconst 1, 1) := k_4 zcX1_addLine rfl rfl
theorem dX1_addLine_13 : decode cX1_addLine 13 = .ok (.iadd, 1) := k_96 zcX1_addLine rfl rfl
theorem dX1_addLine_14 : decode cX1_addLine 14 = .ok (.sipush 997, 3) := k_17 zcX1_addLine rfl rfl rfl
theorem dX1_addLine_17 : decode cX1_addLine 17 = .ok (.invokestatic 93, 3) := k_184 zcX1_addLine rfl rfl rfl
theorem dX1_addLine_20 : decode cX1_addLine 20 = .ok (.istore_n 3, 1) := k_62 zcX1_addLine rfl rfl
theorem dX1_addLine_21 : decode cX1_addLine 21 = .ok (.aload_n 0, 1) := k_42 zcX1_addLine rfl rfl
theorem dX1_addLine_22 : decode cX1_addLine 22 = .ok (.getfield 24, 3) := k_180 zcX1_addLine rfl rfl rfl
theorem dX1_addLine_25 : decode cX1_addLine 25 = .ok (.iconst 0, 1) := k_3 zcX1_addLine rfl rfl
theorem dX1_addLine_26 : decode cX1_addLine 26 = .ok (.iload_n 2, 1) := k_28 zcX1_addLine rfl rfl
theorem dX1_addLine_27 : decode cX1_addLine 27 = .ok (.aload_n 0, 1) := k_42 zcX1_addLine rfl rfl
theorem dX1_addLine_28 : decode cX1_addLine 28 = .ok (.getfield 24, 3) := k_180 zcX1_addLine rfl rfl rfl
theorem dX1_addLine_31 : decode cX1_addLine 31 = .ok (.iconst 0, 1) := k_3 zcX1_addLine rfl rfl
theorem dX1_addLine_32 : decode cX1_addLine 32 = .ok (.iaload, 1) := k_46 zcX1_addLine rfl rfl
theorem dX1_addLine_33 : decode cX1_addLine 33 = .ok (.imul, 1) := k_104 zcX1_addLine rfl rfl
theorem dX1_addLine_34 : decode cX1_addLine 34 = .ok (.sipush 997, 3) := k_17 zcX1_addLine rfl rfl rfl
theorem dX1_addLine_37 : decode cX1_addLine 37 = .ok (.irem, 1) := k_112 zcX1_addLine rfl rfl
theorem dX1_addLine_38 : decode cX1_addLine 38 = .ok (.iastore, 1) := k_79 zcX1_addLine rfl rfl
theorem dX1_addLine_39 : decode cX1_addLine 39 = .ok (.aload_n 0, 1) := k_42 zcX1_addLine rfl rfl
theorem dX1_addLine_40 : decode cX1_addLine 40 = .ok (.getfield 24, 3) := k_180 zcX1_addLine rfl rfl rfl
theorem dX1_addLine_43 : decode cX1_addLine 43 = .ok (.iconst 1, 1) := k_4 zcX1_addLine rfl rfl
theorem dX1_addLine_44 : decode cX1_addLine 44 = .ok (.iload_n 2, 1) := k_28 zcX1_addLine rfl rfl
theorem dX1_addLine_45 : decode cX1_addLine 45 = .ok (.aload_n 0, 1) := k_42 zcX1_addLine rfl rfl
theorem dX1_addLine_46 : decode cX1_addLine 46 = .ok (.getfield 24, 3) := k_180 zcX1_addLine rfl rfl rfl
theorem dX1_addLine_49 : decode cX1_addLine 49 = .ok (.iconst 1, 1) := k_4 zcX1_addLine rfl rfl
theorem dX1_addLine_50 : decode cX1_addLine 50 = .ok (.iaload, 1) := k_46 zcX1_addLine rfl rfl
theorem dX1_addLine_51 : decode cX1_addLine 51 = .ok (.imul, 1) := k_104 zcX1_addLine rfl rfl
theorem dX1_addLine_52 : decode cX1_addLine 52 = .ok (.iload_n 3, 1) := k_29 zcX1_addLine rfl rfl
theorem dX1_addLine_53 : decode cX1_addLine 53 = .ok (.iadd, 1) := k_96 zcX1_addLine rfl rfl
theorem dX1_addLine_54 : decode cX1_addLine 54 = .ok (.sipush 997, 3) := k_17 zcX1_addLine rfl rfl rfl
theorem dX1_addLine_57 : decode cX1_addLine 57 = .ok (.irem, 1) := k_112 zcX1_addLine rfl rfl
theorem dX1_addLine_58 : decode cX1_addLine 58 = .ok (.iastore, 1) := k_79 zcX1_addLine rfl rfl
theorem dX1_addLine_59 : decode cX1_addLine 59 = .ok (.return_, 1) := k_177 zcX1_addLine rfl rfl
theorem dX1_addRun_0 : decode cX1_addRun 0 = .ok (.aload_n 0, 1) := k_42 zcX1_addRun rfl rfl
theorem dX1_addRun_1 : decode cX1_addRun 1 = .ok (.getfield 34, 3) := k_180 zcX1_addRun rfl rfl rfl
theorem dX1_addRun_4 : decode cX1_addRun 4 = .ok (.ifCond .ne 7, 3) := k_154 zcX1_addRun rfl rfl rfl
theorem dX1_addRun_7 : decode cX1_addRun 7 = .ok (.iconst 1, 1) := k_4 zcX1_addRun rfl rfl
theorem dX1_addRun_8 : decode cX1_addRun 8 = .ok (.goto 4, 3) := k_167 zcX1_addRun rfl rfl rfl
theorem dX1_addRun_11 : decode cX1_addRun 11 = .ok (.iconst 0, 1) := k_3 zcX1_addRun rfl rfl
theorem dX1_addRun_12 : decode cX1_addRun 12 = .ok (.istore_n 2, 1) := k_61 zcX1_addRun rfl rfl
theorem dX1_addRun_13 : decode cX1_addRun 13 = .ok (.aload_n 0, 1) := k_42 zcX1_addRun rfl rfl
theorem dX1_addRun_14 : decode cX1_addRun 14 = .ok (.getfield 24, 3) := k_180 zcX1_addRun rfl rfl rfl
theorem dX1_addRun_17 : decode cX1_addRun 17 = .ok (.iconst 1, 1) := k_4 zcX1_addRun rfl rfl
theorem dX1_addRun_18 : decode cX1_addRun 18 = .ok (.dup2, 1) := k_92 zcX1_addRun rfl rfl
theorem dX1_addRun_19 : decode cX1_addRun 19 = .ok (.iaload, 1) := k_46 zcX1_addRun rfl rfl
theorem dX1_addRun_20 : decode cX1_addRun 20 = .ok (.iload_n 1, 1) := k_27 zcX1_addRun rfl rfl
theorem dX1_addRun_21 : decode cX1_addRun 21 = .ok (.iadd, 1) := k_96 zcX1_addRun rfl rfl
theorem dX1_addRun_22 : decode cX1_addRun 22 = .ok (.iastore, 1) := k_79 zcX1_addRun rfl rfl
theorem dX1_addRun_23 : decode cX1_addRun 23 = .ok (.aload_n 0, 1) := k_42 zcX1_addRun rfl rfl
theorem dX1_addRun_24 : decode cX1_addRun 24 = .ok (.getfield 24, 3) := k_180 zcX1_addRun rfl rfl rfl
theorem dX1_addRun_27 : decode cX1_addRun 27 = .ok (.iconst 2, 1) := k_5 zcX1_addRun rfl rfl
theorem dX1_addRun_28 : decode cX1_addRun 28 = .ok (.iload_n 2, 1) := k_28 zcX1_addRun rfl rfl
theorem dX1_addRun_29 : decode cX1_addRun 29 = .ok (.ifCond .eq 7, 3) := k_153 zcX1_addRun rfl rfl rfl
theorem dX1_addRun_32 : decode cX1_addRun 32 = .ok (.iload_n 1, 1) := k_27 zcX1_addRun rfl rfl
theorem dX1_addRun_33 : decode cX1_addRun 33 = .ok (.goto 18, 3) := k_167 zcX1_addRun rfl rfl rfl
theorem dX1_addRun_36 : decode cX1_addRun 36 = .ok (.aload_n 0, 1) := k_42 zcX1_addRun rfl rfl
theorem dX1_addRun_37 : decode cX1_addRun 37 = .ok (.getfield 24, 3) := k_180 zcX1_addRun rfl rfl rfl
theorem dX1_addRun_40 : decode cX1_addRun 40 = .ok (.iconst 2, 1) := k_5 zcX1_addRun rfl rfl
theorem dX1_addRun_41 : decode cX1_addRun 41 = .ok (.iaload, 1) := k_46 zcX1_addRun rfl rfl
theorem dX1_addRun_42 : decode cX1_addRun 42 = .ok (.aload_n 0, 1) := k_42 zcX1_addRun rfl rfl
theorem dX1_addRun_43 : decode cX1_addRun 43 = .ok (.getfield 24, 3) := k_180 zcX1_addRun rfl rfl rfl
theorem dX1_addRun_46 : decode cX1_addRun 46 = .ok (.iconst 1, 1) := k_4 zcX1_addRun rfl rfl
theorem dX1_addRun_47 : decode cX1_addRun 47 = .ok (.iaload, 1) := k_46 zcX1_addRun rfl rfl
theorem dX1_addRun_48 : decode cX1_addRun 48 = .ok (.invokestatic 97, 3) := k_184 zcX1_addRun rfl rfl rfl
theorem dX1_addRun_51 : decode cX1_addRun 51 = .ok (.iastore, 1) := k_79 zcX1_addRun rfl rfl
theorem dX1_addRun_52 : decode cX1_addRun 52 = .ok (.aload_n 0, 1) := k_42 zcX1_addRun rfl rfl
theorem dX1_addRun_53 : decode cX1_addRun 53 = .ok (.getfield 24, 3) := k_180 zcX1_addRun rfl rfl rfl
theorem dX1_addRun_56 : decode cX1_addRun 56 = .ok (.iconst 3, 1) := k_6 zcX1_addRun rfl rfl
theorem dX1_addRun_57 : decode cX1_addRun 57 = .ok (.iload_n 2, 1) := k_28 zcX1_addRun rfl rfl
theorem dX1_addRun_58 : decode cX1_addRun 58 = .ok (.ifCond .eq 7, 3) := k_153 zcX1_addRun rfl rfl rfl
theorem dX1_addRun_61 : decode cX1_addRun 61 = .ok (.iload_n 1, 1) := k_27 zcX1_addRun rfl rfl
theorem dX1_addRun_62 : decode cX1_addRun 62 = .ok (.goto 15, 3) := k_167 zcX1_addRun rfl rfl rfl
theorem dX1_addRun_65 : decode cX1_addRun 65 = .ok (.aload_n 0, 1) := k_42 zcX1_addRun rfl rfl
theorem dX1_addRun_66 : decode cX1_addRun 66 = .ok (.getfield 24, 3) := k_180 zcX1_addRun rfl rfl rfl
theorem dX1_addRun_69 : decode cX1_addRun 69 = .ok (.iconst 3, 1) := k_6 zcX1_addRun rfl rfl
theorem dX1_addRun_70 : decode cX1_addRun 70 = .ok (.iaload, 1) := k_46 zcX1_addRun rfl rfl
theorem dX1_addRun_71 : decode cX1_addRun 71 = .ok (.iload_n 1, 1) := k_27 zcX1_addRun rfl rfl
theorem dX1_addRun_72 : decode cX1_addRun 72 = .ok (.iadd, 1) := k_96 zcX1_addRun rfl rfl
theorem dX1_addRun_73 : decode cX1_addRun 73 = .ok (.iload_n 1, 1) := k_27 zcX1_addRun rfl rfl
theorem dX1_addRun_74 : decode cX1_addRun 74 = .ok (.invokestatic 97, 3) := k_184 zcX1_addRun rfl rfl rfl
theorem dX1_addRun_77 : decode cX1_addRun 77 = .ok (.iastore, 1) := k_79 zcX1_addRun rfl rfl
theorem dX1_addRun_78 : decode cX1_addRun 78 = .ok (.aload_n 0, 1) := k_42 zcX1_addRun rfl rfl
theorem dX1_addRun_79 : decode cX1_addRun 79 = .ok (.getfield 24, 3) := k_180 zcX1_addRun rfl rfl rfl
theorem dX1_addRun_82 : decode cX1_addRun 82 = .ok (.iconst 0, 1) := k_3 zcX1_addRun rfl rfl
theorem dX1_addRun_83 : decode cX1_addRun 83 = .ok (.iload_n 2, 1) := k_28 zcX1_addRun rfl rfl
theorem dX1_addRun_84 : decode cX1_addRun 84 = .ok (.ifCond .eq 7, 3) := k_153 zcX1_addRun rfl rfl rfl
theorem dX1_addRun_87 : decode cX1_addRun 87 = .ok (.iload_n 1, 1) := k_27 zcX1_addRun rfl rfl
theorem dX1_addRun_88 : decode cX1_addRun 88 = .ok (.goto 18, 3) := k_167 zcX1_addRun rfl rfl rfl
theorem dX1_addRun_91 : decode cX1_addRun 91 = .ok (.aload_n 0, 1) := k_42 zcX1_addRun rfl rfl
theorem dX1_addRun_92 : decode cX1_addRun 92 = .ok (.getfield 24, 3) := k_180 zcX1_addRun rfl rfl rfl
theorem dX1_addRun_95 : decode cX1_addRun 95 = .ok (.iconst 0, 1) := k_3 zcX1_addRun rfl rfl
theorem dX1_addRun_96 : decode cX1_addRun 96 = .ok (.iaload, 1) := k_46 zcX1_addRun rfl rfl
theorem dX1_addRun_97 : decode cX1_addRun 97 = .ok (.aload_n 0, 1) := k_42 zcX1_addRun rfl rfl
theorem dX1_addRun_98 : decode cX1_addRun 98 = .ok (.getfield 24, 3) := k_180 zcX1_addRun rfl rfl rfl
theorem dX1_addRun_101 : decode cX1_addRun 101 = .ok (.iconst 3, 1) := k_6 zcX1_addRun rfl rfl
theorem dX1_addRun_102 : decode cX1_addRun 102 = .ok (.iaload, 1) := k_46 zcX1_addRun rfl rfl
theorem dX1_addRun_103 : decode cX1_addRun 103 = .ok (.invokestatic 97, 3) := k_184 zcX1_addRun rfl rfl rfl
theorem dX1_addRun_106 : decode cX1_addRun 106 = .ok (.iastore, 1) := k_79 zcX1_addRun rfl rfl
theorem dX1_addRun_107 : decode cX1_addRun 107 = .ok (.return_, 1) := k_177 zcX1_addRun rfl rfl
theorem dX1_addLetter_0 : decode cX1_addLetter 0 = .ok (.aload_n 0, 1) := k_42 zcX1_addLetter rfl rfl
theorem dX1_addLetter_1 : decode cX1_addLetter 1 = .ok (.getfield 15, 3) := k_180 zcX1_addLetter rfl rfl rfl
theorem dX1_addLetter_4 : decode cX1_addLetter 4 = .ok (.iload_n 1, 1) := k_27 zcX1_addLetter rfl rfl
theorem dX1_addLetter_5 : decode cX1_addLetter 5 = .ok (.bipush 8, 2) := k_16 zcX1_addLetter rfl rfl rfl
theorem dX1_addLetter_7 : decode cX1_addLetter 7 = .ok (.invokestatic 93, 3) := k_184 zcX1_addLetter rfl rfl rfl
theorem dX1_addLetter_10 : decode cX1_addLetter 10 = .ok (.iaload, 1) := k_46 zcX1_addLetter rfl rfl
theorem dX1_addLetter_11 : decode cX1_addLetter 11 = .ok (.istore_n 2, 1) := k_61 zcX1_addLetter rfl rfl
theorem dX1_addLetter_12 : decode cX1_addLetter 12 = .ok (.iconst 0, 1) := k_3 zcX1_addLetter rfl rfl
theorem dX1_addLetter_13 : decode cX1_addLetter 13 = .ok (.istore_n 3, 1) := k_62 zcX1_addLetter rfl rfl
theorem dX1_addLetter_14 : decode cX1_addLetter 14 = .ok (.iconst 0, 1) := k_3 zcX1_addLetter rfl rfl
theorem dX1_addLetter_15 : decode cX1_addLetter 15 = .ok (.istore 4, 2) := k_54 zcX1_addLetter rfl rfl rfl
theorem dX1_addLetter_17 : decode cX1_addLetter 17 = .ok (.iload 4, 2) := k_21 zcX1_addLetter rfl rfl rfl
theorem dX1_addLetter_19 : decode cX1_addLetter 19 = .ok (.iconst 4, 1) := k_7 zcX1_addLetter rfl rfl
theorem dX1_addLetter_20 : decode cX1_addLetter 20 = .ok (.if_icmp .ge 41, 3) := k_162 zcX1_addLetter rfl rfl rfl
theorem dX1_addLetter_23 : decode cX1_addLetter 23 = .ok (.aload_n 0, 1) := k_42 zcX1_addLetter rfl rfl
theorem dX1_addLetter_24 : decode cX1_addLetter 24 = .ok (.getfield 24, 3) := k_180 zcX1_addLetter rfl rfl rfl
theorem dX1_addLetter_27 : decode cX1_addLetter 27 = .ok (.iload 4, 2) := k_21 zcX1_addLetter rfl rfl rfl
theorem dX1_addLetter_29 : decode cX1_addLetter 29 = .ok (.iload_n 2, 1) := k_28 zcX1_addLetter rfl rfl
theorem dX1_addLetter_30 : decode cX1_addLetter 30 = .ok (.iconst 2, 1) := k_5 zcX1_addLetter rfl rfl
theorem dX1_addLetter_31 : decode cX1_addLetter 31 = .ok (.aload_n 0, 1) := k_42 zcX1_addLetter rfl rfl
theorem dX1_addLetter_32 : decode cX1_addLetter 32 = .ok (.getfield 24, 3) := k_180 zcX1_addLetter rfl rfl rfl
theorem dX1_addLetter_35 : decode cX1_addLetter 35 = .ok (.iload 4, 2) := k_21 zcX1_addLetter rfl rfl rfl
theorem dX1_addLetter_37 : decode cX1_addLetter 37 = .ok (.iaload, 1) := k_46 zcX1_addLetter rfl rfl
theorem dX1_addLetter_38 : decode cX1_addLetter 38 = .ok (.imul, 1) := k_104 zcX1_addLetter rfl rfl
theorem dX1_addLetter_39 : decode cX1_addLetter 39 = .ok (.ishr, 1) := k_122 zcX1_addLetter rfl rfl
theorem dX1_addLetter_40 : decode cX1_addLetter 40 = .ok (.iconst 3, 1) := k_6 zcX1_addLetter rfl rfl
theorem dX1_addLetter_41 : decode cX1_addLetter 41 = .ok (.iand, 1) := k_126 zcX1_addLetter rfl rfl
theorem dX1_addLetter_42 : decode cX1_addLetter 42 = .ok (.iastore, 1) := k_79 zcX1_addLetter rfl rfl
theorem dX1_addLetter_43 : decode cX1_addLetter 43 = .ok (.iload_n 3, 1) := k_29 zcX1_addLetter rfl rfl
theorem dX1_addLetter_44 : decode cX1_addLetter 44 = .ok (.iconst 1, 1) := k_4 zcX1_addLetter rfl rfl
theorem dX1_addLetter_45 : decode cX1_addLetter 45 = .ok (.aload_n 0, 1) := k_42 zcX1_addLetter rfl rfl
theorem dX1_addLetter_46 : decode cX1_addLetter 46 = .ok (.getfield 24, 3) := k_180 zcX1_addLetter rfl rfl rfl
theorem dX1_addLetter_49 : decode cX1_addLetter 49 = .ok (.iload 4, 2) := k_21 zcX1_addLetter rfl rfl rfl
theorem dX1_addLetter_51 : decode cX1_addLetter 51 = .ok (.iaload, 1) := k_46 zcX1_addLetter rfl rfl
theorem dX1_addLetter_52 : decode cX1_addLetter 52 = .ok (.ishl, 1) := k_120 zcX1_addLetter rfl rfl
theorem dX1_addLetter_53 : decode cX1_addLetter 53 = .ok (.ior, 1) := k_128 zcX1_addLetter rfl rfl
theorem dX1_addLetter_54 : decode cX1_addLetter 54 = .ok (.istore_n 3, 1) := k_62 zcX1_addLetter rfl rfl
theorem dX1_addLetter_55 : decode cX1_addLetter 55 = .ok (.iinc 4 1, 3) := k_132 zcX1_addLetter rfl rfl rfl rfl
theorem dX1_addLetter_58 : decode cX1_addLetter 58 = .ok (.goto (-41), 3) := k_167 zcX1_addLetter rfl rfl rfl
theorem dX1_addLetter_61 : decode cX1_addLetter 61 = .ok (.aload_n 0, 1) := k_42 zcX1_addLetter rfl rfl
theorem dX1_addLetter_62 : decode cX1_addLetter 62 = .ok (.getfield 24, 3) := k_180 zcX1_addLetter rfl rfl rfl
theorem dX1_addLetter_65 : decode cX1_addLetter 65 = .ok (.iconst 4, 1) := k_7 zcX1_addLetter rfl rfl
theorem dX1_addLetter_66 : decode cX1_addLetter 66 = .ok (.iload_n 3, 1) := k_29 zcX1_addLetter rfl rfl
theorem dX1_addLetter_67 : decode cX1_addLetter 67 = .ok (.invokestatic 100, 3) := k_184 zcX1_addLetter rfl rfl rfl
theorem dX1_addLetter_70 : decode cX1_addLetter 70 = .ok (.iastore, 1) := k_79 zcX1_addLetter rfl rfl
theorem dX1_addLetter_71 : decode cX1_addLetter 71 = .ok (.return_, 1) := k_177 zcX1_addLetter rfl rfl
theorem dX1_addNest_0 : decode cX1_addNest 0 = .ok (.iload_n 1, 1) := k_27 zcX1_addNest rfl rfl
theorem dX1_addNest_1 : decode cX1_addNest 1 = .ok (.ifCond .lt 16, 3) := k_155 zcX1_addNest rfl rfl rfl
theorem dX1_addNest_4 : decode cX1_addNest 4 = .ok (.aload_n 0, 1) := k_42 zcX1_addNest rfl rfl
theorem dX1_addNest_5 : decode cX1_addNest 5 = .ok (.getfield 24, 3) := k_180 zcX1_addNest rfl rfl rfl
theorem dX1_addNest_8 : decode cX1_addNest 8 = .ok (.iconst 1, 1) := k_4 zcX1_addNest rfl rfl
theorem dX1_addNest_9 : decode cX1_addNest 9 = .ok (.dup2, 1) := k_92 zcX1_addNest rfl rfl
theorem dX1_addNest_10 : decode cX1_addNest 10 = .ok (.iaload, 1) := k_46 zcX1_addNest rfl rfl
theorem dX1_addNest_11 : decode cX1_addNest 11 = .ok (.iconst 1, 1) := k_4 zcX1_addNest rfl rfl
theorem dX1_addNest_12 : decode cX1_addNest 12 = .ok (.iadd, 1) := k_96 zcX1_addNest rfl rfl
theorem dX1_addNest_13 : decode cX1_addNest 13 = .ok (.iastore, 1) := k_79 zcX1_addNest rfl rfl
theorem dX1_addNest_14 : decode cX1_addNest 14 = .ok (.goto 45, 3) := k_167 zcX1_addNest rfl rfl rfl
theorem dX1_addNest_17 : decode cX1_addNest 17 = .ok (.aload_n 0, 1) := k_42 zcX1_addNest rfl rfl
theorem dX1_addNest_18 : decode cX1_addNest 18 = .ok (.getfield 24, 3) := k_180 zcX1_addNest rfl rfl rfl
theorem dX1_addNest_21 : decode cX1_addNest 21 = .ok (.iconst 1, 1) := k_4 zcX1_addNest rfl rfl
theorem dX1_addNest_22 : decode cX1_addNest 22 = .ok (.iaload, 1) := k_46 zcX1_addNest rfl rfl
theorem dX1_addNest_23 : decode cX1_addNest 23 = .ok (.ifCond .le 26, 3) := k_158 zcX1_addNest rfl rfl rfl
theorem dX1_addNest_26 : decode cX1_addNest 26 = .ok (.aload_n 0, 1) := k_42 zcX1_addNest rfl rfl
theorem dX1_addNest_27 : decode cX1_addNest 27 = .ok (.getfield 24, 3) := k_180 zcX1_addNest rfl rfl rfl
theorem dX1_addNest_30 : decode cX1_addNest 30 = .ok (.iconst 1, 1) := k_4 zcX1_addNest rfl rfl
theorem dX1_addNest_31 : decode cX1_addNest 31 = .ok (.dup2, 1) := k_92 zcX1_addNest rfl rfl
theorem dX1_addNest_32 : decode cX1_addNest 32 = .ok (.iaload, 1) := k_46 zcX1_addNest rfl rfl
theorem dX1_addNest_33 : decode cX1_addNest 33 = .ok (.iconst 1, 1) := k_4 zcX1_addNest rfl rfl
theorem dX1_addNest_34 : decode cX1_addNest 34 = .ok (.isub, 1) := k_100 zcX1_addNest rfl rfl
theorem dX1_addNest_35 : decode cX1_addNest 35 = .ok (.iastore, 1) := k_79 zcX1_addNest rfl rfl
theorem dX1_addNest_36 : decode cX1_addNest 36 = .ok (.aload_n 0, 1) := k_42 zcX1_addNest rfl rfl
theorem dX1_addNest_37 : decode cX1_addNest 37 = .ok (.getfield 24, 3) := k_180 zcX1_addNest rfl rfl rfl
theorem dX1_addNest_40 : decode cX1_addNest 40 = .ok (.iconst 2, 1) := k_5 zcX1_addNest rfl rfl
theorem dX1_addNest_41 : decode cX1_addNest 41 = .ok (.dup2, 1) := k_92 zcX1_addNest rfl rfl
theorem dX1_addNest_42 : decode cX1_addNest 42 = .ok (.iaload, 1) := k_46 zcX1_addNest rfl rfl
theorem dX1_addNest_43 : decode cX1_addNest 43 = .ok (.iconst 1, 1) := k_4 zcX1_addNest rfl rfl
theorem dX1_addNest_44 : decode cX1_addNest 44 = .ok (.iadd, 1) := k_96 zcX1_addNest rfl rfl
theorem dX1_addNest_45 : decode cX1_addNest 45 = .ok (.iastore, 1) := k_79 zcX1_addNest rfl rfl
theorem dX1_addNest_46 : decode cX1_addNest 46 = .ok (.goto 13, 3) := k_167 zcX1_addNest rfl rfl rfl
theorem dX1_addNest_49 : decode cX1_addNest 49 = .ok (.aload_n 0, 1) := k_42 zcX1_addNest rfl rfl
theorem dX1_addNest_50 : decode cX1_addNest 50 = .ok (.getfield 24, 3) := k_180 zcX1_addNest rfl rfl rfl
theorem dX1_addNest_53 : decode cX1_addNest 53 = .ok (.iconst 0, 1) := k_3 zcX1_addNest rfl rfl
theorem dX1_addNest_54 : decode cX1_addNest 54 = .ok (.dup2, 1) := k_92 zcX1_addNest rfl rfl
theorem dX1_addNest_55 : decode cX1_addNest 55 = .ok (.iaload, 1) := k_46 zcX1_addNest rfl rfl
theorem dX1_addNest_56 : decode cX1_addNest 56 = .ok (.iconst 1, 1) := k_4 zcX1_addNest rfl rfl
theorem dX1_addNest_57 : decode cX1_addNest 57 = .ok (.iadd, 1) := k_96 zcX1_addNest rfl rfl
theorem dX1_addNest_58 : decode cX1_addNest 58 = .ok (.iastore, 1) := k_79 zcX1_addNest rfl rfl
theorem dX1_addNest_59 : decode cX1_addNest 59 = .ok (.aload_n 0, 1) := k_42 zcX1_addNest rfl rfl
theorem dX1_addNest_60 : decode cX1_addNest 60 = .ok (.getfield 24, 3) := k_180 zcX1_addNest rfl rfl rfl
theorem dX1_addNest_63 : decode cX1_addNest 63 = .ok (.iconst 3, 1) := k_6 zcX1_addNest rfl rfl
theorem dX1_addNest_64 : decode cX1_addNest 64 = .ok (.aload_n 0, 1) := k_42 zcX1_addNest rfl rfl
theorem dX1_addNest_65 : decode cX1_addNest 65 = .ok (.getfield 24, 3) := k_180 zcX1_addNest rfl rfl rfl
theorem dX1_addNest_68 : decode cX1_addNest 68 = .ok (.iconst 3, 1) := k_6 zcX1_addNest rfl rfl
theorem dX1_addNest_69 : decode cX1_addNest 69 = .ok (.iaload, 1) := k_46 zcX1_addNest rfl rfl
theorem dX1_addNest_70 : decode cX1_addNest 70 = .ok (.aload_n 0, 1) := k_42 zcX1_addNest rfl rfl
theorem dX1_addNest_71 : decode cX1_addNest 71 = .ok (.getfield 24, 3) := k_180 zcX1_addNest rfl rfl rfl
theorem dX1_addNest_74 : decode cX1_addNest 74 = .ok (.iconst 1, 1) := k_4 zcX1_addNest rfl rfl
theorem dX1_addNest_75 : decode cX1_addNest 75 = .ok (.iaload, 1) := k_46 zcX1_addNest rfl rfl
theorem dX1_addNest_76 : decode cX1_addNest 76 = .ok (.aload_n 0, 1) := k_42 zcX1_addNest rfl rfl
theorem dX1_addNest_77 : decode cX1_addNest 77 = .ok (.getfield 24, 3) := k_180 zcX1_addNest rfl rfl rfl
theorem dX1_addNest_80 : decode cX1_addNest 80 = .ok (.iconst 0, 1) := k_3 zcX1_addNest rfl rfl
theorem dX1_addNest_81 : decode cX1_addNest 81 = .ok (.iaload, 1) := k_46 zcX1_addNest rfl rfl
theorem dX1_addNest_82 : decode cX1_addNest 82 = .ok (.isub, 1) := k_100 zcX1_addNest rfl rfl
theorem dX1_addNest_83 : decode cX1_addNest 83 = .ok (.invokestatic 97, 3) := k_184 zcX1_addNest rfl rfl rfl
theorem dX1_addNest_86 : decode cX1_addNest 86 = .ok (.iastore, 1) := k_79 zcX1_addNest rfl rfl
theorem dX1_addNest_87 : decode cX1_addNest 87 = .ok (.return_, 1) := k_177 zcX1_addNest rfl rfl
theorem dX1_addLike_0 : decode cX1_addLike 0 = .ok (.aload_n 0, 1) := k_42 zcX1_addLike rfl rfl
theorem dX1_addLike_1 : decode cX1_addLike 1 = .ok (.getfield 34, 3) := k_180 zcX1_addLike rfl rfl rfl
theorem dX1_addLike_4 : decode cX1_addLike 4 = .ok (.ifCond .le 27, 3) := k_158 zcX1_addLike rfl rfl rfl
theorem dX1_addLike_7 : decode cX1_addLike 7 = .ok (.iload_n 1, 1) := k_27 zcX1_addLike rfl rfl
theorem dX1_addLike_8 : decode cX1_addLike 8 = .ok (.aload_n 0, 1) := k_42 zcX1_addLike rfl rfl
theorem dX1_addLike_9 : decode cX1_addLike 9 = .ok (.getfield 24, 3) := k_180 zcX1_addLike rfl rfl rfl
theorem dX1_addLike_12 : decode cX1_addLike 12 = .ok (.bipush 6, 2) := k_16 zcX1_addLike rfl rfl rfl
theorem dX1_addLike_14 : decode cX1_addLike 14 = .ok (.iaload, 1) := k_46 zcX1_addLike rfl rfl
theorem dX1_addLike_15 : decode cX1_addLike 15 = .ok (.if_icmp .ne 16, 3) := k_160 zcX1_addLike rfl rfl rfl
theorem dX1_addLike_18 : decode cX1_addLike 18 = .ok (.aload_n 0, 1) := k_42 zcX1_addLike rfl rfl
theorem dX1_addLike_19 : decode cX1_addLike 19 = .ok (.getfield 24, 3) := k_180 zcX1_addLike rfl rfl rfl
theorem dX1_addLike_22 : decode cX1_addLike 22 = .ok (.iconst 4, 1) := k_7 zcX1_addLike rfl rfl
theorem dX1_addLike_23 : decode cX1_addLike 23 = .ok (.dup2, 1) := k_92 zcX1_addLike rfl rfl
theorem dX1_addLike_24 : decode cX1_addLike 24 = .ok (.iaload, 1) := k_46 zcX1_addLike rfl rfl
theorem dX1_addLike_25 : decode cX1_addLike 25 = .ok (.iconst 1, 1) := k_4 zcX1_addLike rfl rfl
theorem dX1_addLike_26 : decode cX1_addLike 26 = .ok (.iadd, 1) := k_96 zcX1_addLike rfl rfl
theorem dX1_addLike_27 : decode cX1_addLike 27 = .ok (.iastore, 1) := k_79 zcX1_addLike rfl rfl
theorem dX1_addLike_28 : decode cX1_addLike 28 = .ok (.goto 20, 3) := k_167 zcX1_addLike rfl rfl rfl
theorem dX1_addLike_31 : decode cX1_addLike 31 = .ok (.aload_n 0, 1) := k_42 zcX1_addLike rfl rfl
theorem dX1_addLike_32 : decode cX1_addLike 32 = .ok (.getfield 24, 3) := k_180 zcX1_addLike rfl rfl rfl
theorem dX1_addLike_35 : decode cX1_addLike 35 = .ok (.iconst 2, 1) := k_5 zcX1_addLike rfl rfl
theorem dX1_addLike_36 : decode cX1_addLike 36 = .ok (.dup2, 1) := k_92 zcX1_addLike rfl rfl
theorem dX1_addLike_37 : decode cX1_addLike 37 = .ok (.iaload, 1) := k_46 zcX1_addLike rfl rfl
theorem dX1_addLike_38 : decode cX1_addLike 38 = .ok (.iconst 1, 1) := k_4 zcX1_addLike rfl rfl
theorem dX1_addLike_39 : decode cX1_addLike 39 = .ok (.iadd, 1) := k_96 zcX1_addLike rfl rfl
theorem dX1_addLike_40 : decode cX1_addLike 40 = .ok (.iastore, 1) := k_79 zcX1_addLike rfl rfl
theorem dX1_addLike_41 : decode cX1_addLike 41 = .ok (.aload_n 0, 1) := k_42 zcX1_addLike rfl rfl
theorem dX1_addLike_42 : decode cX1_addLike 42 = .ok (.getfield 24, 3) := k_180 zcX1_addLike rfl rfl rfl
theorem dX1_addLike_45 : decode cX1_addLike 45 = .ok (.iconst 4, 1) := k_7 zcX1_addLike rfl rfl
theorem dX1_addLike_46 : decode cX1_addLike 46 = .ok (.iconst 1, 1) := k_4 zcX1_addLike rfl rfl
theorem dX1_addLike_47 : decode cX1_addLike 47 = .ok (.iastore, 1) := k_79 zcX1_addLike rfl rfl
theorem dX1_addLike_48 : decode cX1_addLike 48 = .ok (.aload_n 0, 1) := k_42 zcX1_addLike rfl rfl
theorem dX1_addLike_49 : decode cX1_addLike 49 = .ok (.getfield 34, 3) := k_180 zcX1_addLike rfl rfl rfl
theorem dX1_addLike_52 : decode cX1_addLike 52 = .ok (.ifCond .ne 10, 3) := k_154 zcX1_addLike rfl rfl rfl
theorem dX1_addLike_55 : decode cX1_addLike 55 = .ok (.aload_n 0, 1) := k_42 zcX1_addLike rfl rfl
theorem dX1_addLike_56 : decode cX1_addLike 56 = .ok (.getfield 24, 3) := k_180 zcX1_addLike rfl rfl rfl
theorem dX1_addLike_59 : decode cX1_addLike 59 = .ok (.iconst 5, 1) := k_8 zcX1_addLike rfl rfl
theorem dX1_addLike_60 : decode cX1_addLike 60 = .ok (.iload_n 1, 1) := k_27 zcX1_addLike rfl rfl
theorem dX1_addLike_61 : decode cX1_addLike 61 = .ok (.iastore, 1) := k_79 zcX1_addLike rfl rfl
theorem dX1_addLike_62 : decode cX1_addLike 62 = .ok (.aload_n 0, 1) := k_42 zcX1_addLike rfl rfl
theorem dX1_addLike_63 : decode cX1_addLike 63 = .ok (.getfield 24, 3) := k_180 zcX1_addLike rfl rfl rfl
theorem dX1_addLike_66 : decode cX1_addLike 66 = .ok (.iconst 2, 1) := k_5 zcX1_addLike rfl rfl
theorem dX1_addLike_67 : decode cX1_addLike 67 = .ok (.iaload, 1) := k_46 zcX1_addLike rfl rfl
theorem dX1_addLike_68 : decode cX1_addLike 68 = .ok (.iconst 1, 1) := k_4 zcX1_addLike rfl rfl
theorem dX1_addLike_69 : decode cX1_addLike 69 = .ok (.if_icmp .ne 15, 3) := k_160 zcX1_addLike rfl rfl rfl
theorem dX1_addLike_72 : decode cX1_addLike 72 = .ok (.aload_n 0, 1) := k_42 zcX1_addLike rfl rfl
theorem dX1_addLike_73 : decode cX1_addLike 73 = .ok (.getfield 24, 3) := k_180 zcX1_addLike rfl rfl rfl
theorem dX1_addLike_76 : decode cX1_addLike 76 = .ok (.iconst 3, 1) := k_6 zcX1_addLike rfl rfl
theorem dX1_addLike_77 : decode cX1_addLike 77 = .ok (.aload_n 0, 1) := k_42 zcX1_addLike rfl rfl
theorem dX1_addLike_78 : decode cX1_addLike 78 = .ok (.getfield 24, 3) := k_180 zcX1_addLike rfl rfl rfl
theorem dX1_addLike_81 : decode cX1_addLike 81 = .ok (.iconst 4, 1) := k_7 zcX1_addLike rfl rfl
theorem dX1_addLike_82 : decode cX1_addLike 82 = .ok (.iaload, 1) := k_46 zcX1_addLike rfl rfl
theorem dX1_addLike_83 : decode cX1_addLike 83 = .ok (.iastore, 1) := k_79 zcX1_addLike rfl rfl
theorem dX1_addLike_84 : decode cX1_addLike 84 = .ok (.aload_n 0, 1) := k_42 zcX1_addLike rfl rfl
theorem dX1_addLike_85 : decode cX1_addLike 85 = .ok (.getfield 24, 3) := k_180 zcX1_addLike rfl rfl rfl
theorem dX1_addLike_88 : decode cX1_addLike 88 = .ok (.iconst 4, 1) := k_7 zcX1_addLike rfl rfl
theorem dX1_addLike_89 : decode cX1_addLike 89 = .ok (.iaload, 1) := k_46 zcX1_addLike rfl rfl
theorem dX1_addLike_90 : decode cX1_addLike 90 = .ok (.aload_n 0, 1) := k_42 zcX1_addLike rfl rfl
theorem dX1_addLike_91 : decode cX1_addLike 91 = .ok (.getfield 24, 3) := k_180 zcX1_addLike rfl rfl rfl
theorem dX1_addLike_94 : decode cX1_addLike 94 = .ok (.iconst 0, 1) := k_3 zcX1_addLike rfl rfl
theorem dX1_addLike_95 : decode cX1_addLike 95 = .ok (.iaload, 1) := k_46 zcX1_addLike rfl rfl
theorem dX1_addLike_96 : decode cX1_addLike 96 = .ok (.if_icmp .le 22, 3) := k_164 zcX1_addLike rfl rfl rfl
theorem dX1_addLike_99 : decode cX1_addLike 99 = .ok (.aload_n 0, 1) := k_42 zcX1_addLike rfl rfl
theorem dX1_addLike_100 : decode cX1_addLike 100 = .ok (.getfield 24, 3) := k_180 zcX1_addLike rfl rfl rfl
theorem dX1_addLike_103 : decode cX1_addLike 103 = .ok (.iconst 0, 1) := k_3 zcX1_addLike rfl rfl
theorem dX1_addLike_104 : decode cX1_addLike 104 = .ok (.aload_n 0, 1) := k_42 zcX1_addLike rfl rfl
theorem dX1_addLike_105 : decode cX1_addLike 105 = .ok (.getfield 24, 3) := k_180 zcX1_addLike rfl rfl rfl
theorem dX1_addLike_108 : decode cX1_addLike 108 = .ok (.iconst 4, 1) := k_7 zcX1_addLike rfl rfl
theorem dX1_addLike_109 : decode cX1_addLike 109 = .ok (.iaload, 1) := k_46 zcX1_addLike rfl rfl
theorem dX1_addLike_110 : decode cX1_addLike 110 = .ok (.iastore, 1) := k_79 zcX1_addLike rfl rfl
theorem dX1_addLike_111 : decode cX1_addLike 111 = .ok (.aload_n 0, 1) := k_42 zcX1_addLike rfl rfl
theorem dX1_addLike_112 : decode cX1_addLike 112 = .ok (.getfield 24, 3) := k_180 zcX1_addLike rfl rfl rfl
theorem dX1_addLike_115 : decode cX1_addLike 115 = .ok (.iconst 1, 1) := k_4 zcX1_addLike rfl rfl
theorem dX1_addLike_116 : decode cX1_addLike 116 = .ok (.iload_n 1, 1) := k_27 zcX1_addLike rfl rfl
theorem dX1_addLike_117 : decode cX1_addLike 117 = .ok (.iastore, 1) := k_79 zcX1_addLike rfl rfl
theorem dX1_addLike_118 : decode cX1_addLike 118 = .ok (.aload_n 0, 1) := k_42 zcX1_addLike rfl rfl
theorem dX1_addLike_119 : decode cX1_addLike 119 = .ok (.getfield 24, 3) := k_180 zcX1_addLike rfl rfl rfl
theorem dX1_addLike_122 : decode cX1_addLike 122 = .ok (.bipush 6, 2) := k_16 zcX1_addLike rfl rfl rfl
theorem dX1_addLike_124 : decode cX1_addLike 124 = .ok (.iload_n 1, 1) := k_27 zcX1_addLike rfl rfl
theorem dX1_addLike_125 : decode cX1_addLike 125 = .ok (.iastore, 1) := k_79 zcX1_addLike rfl rfl
theorem dX1_addLike_126 : decode cX1_addLike 126 = .ok (.return_, 1) := k_177 zcX1_addLike rfl rfl
theorem dX1_addStep_0 : decode cX1_addStep 0 = .ok (.aload_n 0, 1) := k_42 zcX1_addStep rfl rfl
theorem dX1_addStep_1 : decode cX1_addStep 1 = .ok (.getfield 34, 3) := k_180 zcX1_addStep rfl rfl rfl
theorem dX1_addStep_4 : decode cX1_addStep 4 = .ok (.ifCond .ne 7, 3) := k_154 zcX1_addStep rfl rfl rfl
theorem dX1_addStep_7 : decode cX1_addStep 7 = .ok (.iconst 1, 1) := k_4 zcX1_addStep rfl rfl
theorem dX1_addStep_8 : decode cX1_addStep 8 = .ok (.goto 4, 3) := k_167 zcX1_addStep rfl rfl rfl
theorem dX1_addStep_11 : decode cX1_addStep 11 = .ok (.iconst 0, 1) := k_3 zcX1_addStep rfl rfl
theorem dX1_addStep_12 : decode cX1_addStep 12 = .ok (.istore_n 2, 1) := k_61 zcX1_addStep rfl rfl
theorem dX1_addStep_13 : decode cX1_addStep 13 = .ok (.iload_n 2, 1) := k_28 zcX1_addStep rfl rfl
theorem dX1_addStep_14 : decode cX1_addStep 14 = .ok (.ifCond .ne 17, 3) := k_154 zcX1_addStep rfl rfl rfl
theorem dX1_addStep_17 : decode cX1_addStep 17 = .ok (.iload_n 1, 1) := k_27 zcX1_addStep rfl rfl
theorem dX1_addStep_18 : decode cX1_addStep 18 = .ok (.aload_n 0, 1) := k_42 zcX1_addStep rfl rfl
theorem dX1_addStep_19 : decode cX1_addStep 19 = .ok (.getfield 24, 3) := k_180 zcX1_addStep rfl rfl rfl
theorem dX1_addStep_22 : decode cX1_addStep 22 = .ok (.iconst 3, 1) := k_6 zcX1_addStep rfl rfl
theorem dX1_addStep_23 : decode cX1_addStep 23 = .ok (.iaload, 1) := k_46 zcX1_addStep rfl rfl
theorem dX1_addStep_24 : decode cX1_addStep 24 = .ok (.if_icmp .ge 7, 3) := k_162 zcX1_addStep rfl rfl rfl
theorem dX1_addStep_27 : decode cX1_addStep 27 = .ok (.iconst 1, 1) := k_4 zcX1_addStep rfl rfl
theorem dX1_addStep_28 : decode cX1_addStep 28 = .ok (.goto 4, 3) := k_167 zcX1_addStep rfl rfl rfl
theorem dX1_addStep_31 : decode cX1_addStep 31 = .ok (.iconst 0, 1) := k_3 zcX1_addStep rfl rfl
theorem dX1_addStep_32 : decode cX1_addStep 32 = .ok (.istore_n 3, 1) := k_62 zcX1_addStep rfl rfl
theorem dX1_addStep_33 : decode cX1_addStep 33 = .ok (.iload_n 2, 1) := k_28 zcX1_addStep rfl rfl
theorem dX1_addStep_34 : decode cX1_addStep 34 = .ok (.ifCond .ne 17, 3) := k_154 zcX1_addStep rfl rfl rfl
theorem dX1_addStep_37 : decode cX1_addStep 37 = .ok (.iload_n 1, 1) := k_27 zcX1_addStep rfl rfl
theorem dX1_addStep_38 : decode cX1_addStep 38 = .ok (.aload_n 0, 1) := k_42 zcX1_addStep rfl rfl
theorem dX1_addStep_39 : decode cX1_addStep 39 = .ok (.getfield 24, 3) := k_180 zcX1_addStep rfl rfl rfl
theorem dX1_addStep_42 : decode cX1_addStep 42 = .ok (.iconst 3, 1) := k_6 zcX1_addStep rfl rfl
theorem dX1_addStep_43 : decode cX1_addStep 43 = .ok (.iaload, 1) := k_46 zcX1_addStep rfl rfl
theorem dX1_addStep_44 : decode cX1_addStep 44 = .ok (.if_icmp .le 7, 3) := k_164 zcX1_addStep rfl rfl rfl
theorem dX1_addStep_47 : decode cX1_addStep 47 = .ok (.iconst 1, 1) := k_4 zcX1_addStep rfl rfl
theorem dX1_addStep_48 : decode cX1_addStep 48 = .ok (.goto 4, 3) := k_167 zcX1_addStep rfl rfl rfl
theorem dX1_addStep_51 : decode cX1_addStep 51 = .ok (.iconst 0, 1) := k_3 zcX1_addStep rfl rfl
theorem dX1_addStep_52 : decode cX1_addStep 52 = .ok (.istore 4, 2) := k_54 zcX1_addStep rfl rfl rfl
theorem dX1_addStep_54 : decode cX1_addStep 54 = .ok (.aload_n 0, 1) := k_42 zcX1_addStep rfl rfl
theorem dX1_addStep_55 : decode cX1_addStep 55 = .ok (.getfield 24, 3) := k_180 zcX1_addStep rfl rfl rfl
theorem dX1_addStep_58 : decode cX1_addStep 58 = .ok (.iconst 0, 1) := k_3 zcX1_addStep rfl rfl
theorem dX1_addStep_59 : decode cX1_addStep 59 = .ok (.dup2, 1) := k_92 zcX1_addStep rfl rfl
theorem dX1_addStep_60 : decode cX1_addStep 60 = .ok (.iaload, 1) := k_46 zcX1_addStep rfl rfl
theorem dX1_addStep_61 : decode cX1_addStep 61 = .ok (.iload_n 3, 1) := k_29 zcX1_addStep rfl rfl
theorem dX1_addStep_62 : decode cX1_addStep 62 = .ok (.ifCond .eq 7, 3) := k_153 zcX1_addStep rfl rfl rfl
theorem dX1_addStep_65 : decode cX1_addStep 65 = .ok (.iconst 1, 1) := k_4 zcX1_addStep rfl rfl
theorem dX1_addStep_66 : decode cX1_addStep 66 = .ok (.goto 4, 3) := k_167 zcX1_addStep rfl rfl rfl
theorem dX1_addStep_69 : decode cX1_addStep 69 = .ok (.iconst 0, 1) := k_3 zcX1_addStep rfl rfl
theorem dX1_addStep_70 : decode cX1_addStep 70 = .ok (.iadd, 1) := k_96 zcX1_addStep rfl rfl
theorem dX1_addStep_71 : decode cX1_addStep 71 = .ok (.iastore, 1) := k_79 zcX1_addStep rfl rfl
theorem dX1_addStep_72 : decode cX1_addStep 72 = .ok (.aload_n 0, 1) := k_42 zcX1_addStep rfl rfl
theorem dX1_addStep_73 : decode cX1_addStep 73 = .ok (.getfield 24, 3) := k_180 zcX1_addStep rfl rfl rfl
theorem dX1_addStep_76 : decode cX1_addStep 76 = .ok (.iconst 1, 1) := k_4 zcX1_addStep rfl rfl
theorem dX1_addStep_77 : decode cX1_addStep 77 = .ok (.dup2, 1) := k_92 zcX1_addStep rfl rfl
theorem dX1_addStep_78 : decode cX1_addStep 78 = .ok (.iaload, 1) := k_46 zcX1_addStep rfl rfl
theorem dX1_addStep_79 : decode cX1_addStep 79 = .ok (.iload 4, 2) := k_21 zcX1_addStep rfl rfl rfl
theorem dX1_addStep_81 : decode cX1_addStep 81 = .ok (.ifCond .eq 7, 3) := k_153 zcX1_addStep rfl rfl rfl
theorem dX1_addStep_84 : decode cX1_addStep 84 = .ok (.iconst 1, 1) := k_4 zcX1_addStep rfl rfl
theorem dX1_addStep_85 : decode cX1_addStep 85 = .ok (.goto 4, 3) := k_167 zcX1_addStep rfl rfl rfl
theorem dX1_addStep_88 : decode cX1_addStep 88 = .ok (.iconst 0, 1) := k_3 zcX1_addStep rfl rfl
theorem dX1_addStep_89 : decode cX1_addStep 89 = .ok (.iadd, 1) := k_96 zcX1_addStep rfl rfl
theorem dX1_addStep_90 : decode cX1_addStep 90 = .ok (.iastore, 1) := k_79 zcX1_addStep rfl rfl
theorem dX1_addStep_91 : decode cX1_addStep 91 = .ok (.aload_n 0, 1) := k_42 zcX1_addStep rfl rfl
theorem dX1_addStep_92 : decode cX1_addStep 92 = .ok (.getfield 24, 3) := k_180 zcX1_addStep rfl rfl rfl
theorem dX1_addStep_95 : decode cX1_addStep 95 = .ok (.iconst 2, 1) := k_5 zcX1_addStep rfl rfl
theorem dX1_addStep_96 : decode cX1_addStep 96 = .ok (.iload_n 2, 1) := k_28 zcX1_addStep rfl rfl
theorem dX1_addStep_97 : decode cX1_addStep 97 = .ok (.ifCond .eq 7, 3) := k_153 zcX1_addStep rfl rfl rfl
theorem dX1_addStep_100 : decode cX1_addStep 100 = .ok (.iload_n 1, 1) := k_27 zcX1_addStep rfl rfl
theorem dX1_addStep_101 : decode cX1_addStep 101 = .ok (.goto 9, 3) := k_167 zcX1_addStep rfl rfl rfl
theorem dX1_addStep_104 : decode cX1_addStep 104 = .ok (.aload_n 0, 1) := k_42 zcX1_addStep rfl rfl
theorem dX1_addStep_105 : decode cX1_addStep 105 = .ok (.getfield 24, 3) := k_180 zcX1_addStep rfl rfl rfl
theorem dX1_addStep_108 : decode cX1_addStep 108 = .ok (.iconst 2, 1) := k_5 zcX1_addStep rfl rfl
theorem dX1_addStep_109 : decode cX1_addStep 109 = .ok (.iaload, 1) := k_46 zcX1_addStep rfl rfl
theorem dX1_addStep_110 : decode cX1_addStep 110 = .ok (.iastore, 1) := k_79 zcX1_addStep rfl rfl
theorem dX1_addStep_111 : decode cX1_addStep 111 = .ok (.aload_n 0, 1) := k_42 zcX1_addStep rfl rfl
theorem dX1_addStep_112 : decode cX1_addStep 112 = .ok (.getfield 24, 3) := k_180 zcX1_addStep rfl rfl rfl
theorem dX1_addStep_115 : decode cX1_addStep 115 = .ok (.iconst 3, 1) := k_6 zcX1_addStep rfl rfl
theorem dX1_addStep_116 : decode cX1_addStep 116 = .ok (.iload_n 1, 1) := k_27 zcX1_addStep rfl rfl
theorem dX1_addStep_117 : decode cX1_addStep 117 = .ok (.iastore, 1) := k_79 zcX1_addStep rfl rfl
theorem dX1_addStep_118 : decode cX1_addStep 118 = .ok (.aload_n 0, 1) := k_42 zcX1_addStep rfl rfl
theorem dX1_addStep_119 : decode cX1_addStep 119 = .ok (.iload_n 3, 1) := k_29 zcX1_addStep rfl rfl
theorem dX1_addStep_120 : decode cX1_addStep 120 = .ok (.ifCond .eq 7, 3) := k_153 zcX1_addStep rfl rfl rfl
theorem dX1_addStep_123 : decode cX1_addStep 123 = .ok (.iconst 1, 1) := k_4 zcX1_addStep rfl rfl
theorem dX1_addStep_124 : decode cX1_addStep 124 = .ok (.goto 9, 3) := k_167 zcX1_addStep rfl rfl rfl
theorem dX1_addStep_127 : decode cX1_addStep 127 = .ok (.aload_n 0, 1) := k_42 zcX1_addStep rfl rfl
theorem dX1_addStep_128 : decode cX1_addStep 128 = .ok (.getfield 37, 3) := k_180 zcX1_addStep rfl rfl rfl
theorem dX1_addStep_131 : decode cX1_addStep 131 = .ok (.iconst 1, 1) := k_4 zcX1_addStep rfl rfl
theorem dX1_addStep_132 : decode cX1_addStep 132 = .ok (.iadd, 1) := k_96 zcX1_addStep rfl rfl
theorem dX1_addStep_133 : decode cX1_addStep 133 = .ok (.putfield 37, 3) := k_181 zcX1_addStep rfl rfl rfl
theorem dX1_addStep_136 : decode cX1_addStep 136 = .ok (.aload_n 0, 1) := k_42 zcX1_addStep rfl rfl
theorem dX1_addStep_137 : decode cX1_addStep 137 = .ok (.getfield 24, 3) := k_180 zcX1_addStep rfl rfl rfl
theorem dX1_addStep_140 : decode cX1_addStep 140 = .ok (.iconst 4, 1) := k_7 zcX1_addStep rfl rfl
theorem dX1_addStep_141 : decode cX1_addStep 141 = .ok (.aload_n 0, 1) := k_42 zcX1_addStep rfl rfl
theorem dX1_addStep_142 : decode cX1_addStep 142 = .ok (.getfield 24, 3) := k_180 zcX1_addStep rfl rfl rfl
theorem dX1_addStep_145 : decode cX1_addStep 145 = .ok (.iconst 4, 1) := k_7 zcX1_addStep rfl rfl
theorem dX1_addStep_146 : decode cX1_addStep 146 = .ok (.iaload, 1) := k_46 zcX1_addStep rfl rfl
theorem dX1_addStep_147 : decode cX1_addStep 147 = .ok (.aload_n 0, 1) := k_42 zcX1_addStep rfl rfl
theorem dX1_addStep_148 : decode cX1_addStep 148 = .ok (.getfield 37, 3) := k_180 zcX1_addStep rfl rfl rfl
theorem dX1_addStep_151 : decode cX1_addStep 151 = .ok (.invokestatic 97, 3) := k_184 zcX1_addStep rfl rfl rfl
theorem dX1_addStep_154 : decode cX1_addStep 154 = .ok (.iastore, 1) := k_79 zcX1_addStep rfl rfl
theorem dX1_addStep_155 : decode cX1_addStep 155 = .ok (.return_, 1) := k_177 zcX1_addStep rfl rfl
theorem dX1_addSpread_0 : decode cX1_addSpread 0 = .ok (.iload_n 1, 1) := k_27 zcX1_addSpread rfl rfl
theorem dX1_addSpread_1 : decode cX1_addSpread 1 = .ok (.ifCond .le 34, 3) := k_158 zcX1_addSpread rfl rfl rfl
theorem dX1_addSpread_4 : decode cX1_addSpread 4 = .ok (.aload_n 0, 1) := k_42 zcX1_addSpread rfl rfl
theorem dX1_addSpread_5 : decode cX1_addSpread 5 = .ok (.getfield 24, 3) := k_180 zcX1_addSpread rfl rfl rfl
theorem dX1_addSpread_8 : decode cX1_addSpread 8 = .ok (.iconst 0, 1) := k_3 zcX1_addSpread rfl rfl
theorem dX1_addSpread_9 : decode cX1_addSpread 9 = .ok (.iaload, 1) := k_46 zcX1_addSpread rfl rfl
theorem dX1_addSpread_10 : decode cX1_addSpread 10 = .ok (.ldc 40, 2) := k_18 zcX1_addSpread rfl rfl rfl
theorem dX1_addSpread_12 : decode cX1_addSpread 12 = .ok (.if_icmp .eq 13, 3) := k_159 zcX1_addSpread rfl rfl rfl
theorem dX1_addSpread_15 : decode cX1_addSpread 15 = .ok (.iload_n 1, 1) := k_27 zcX1_addSpread rfl rfl
theorem dX1_addSpread_16 : decode cX1_addSpread 16 = .ok (.aload_n 0, 1) := k_42 zcX1_addSpread rfl rfl
theorem dX1_addSpread_17 : decode cX1_addSpread 17 = .ok (.getfield 24, 3) := k_180 zcX1_addSpread rfl rfl rfl
theorem dX1_addSpread_20 : decode cX1_addSpread 20 = .ok (.iconst 0, 1) := k_3 zcX1_addSpread rfl rfl
theorem dX1_addSpread_21 : decode cX1_addSpread 21 = .ok (.iaload, 1) := k_46 zcX1_addSpread rfl rfl
theorem dX1_addSpread_22 : decode cX1_addSpread 22 = .ok (.if_icmp .ge 13, 3) := k_162 zcX1_addSpread rfl rfl rfl
theorem dX1_addSpread_25 : decode cX1_addSpread 25 = .ok (.aload_n 0, 1) := k_42 zcX1_addSpread rfl rfl
theorem dX1_addSpread_26 : decode cX1_addSpread 26 = .ok (.getfield 24, 3) := k_180 zcX1_addSpread rfl rfl rfl
theorem dX1_addSpread_29 : decode cX1_addSpread 29 = .ok (.iconst 0, 1) := k_3 zcX1_addSpread rfl rfl
theorem dX1_addSpread_30 : decode cX1_addSpread 30 = .ok (.iload_n 1, 1) := k_27 zcX1_addSpread rfl rfl
theorem dX1_addSpread_31 : decode cX1_addSpread 31 = .ok (.iastore, 1) := k_79 zcX1_addSpread rfl rfl
theorem dX1_addSpread_32 : decode cX1_addSpread 32 = .ok (.goto 40, 3) := k_167 zcX1_addSpread rfl rfl rfl
theorem dX1_addSpread_35 : decode cX1_addSpread 35 = .ok (.iload_n 1, 1) := k_27 zcX1_addSpread rfl rfl
theorem dX1_addSpread_36 : decode cX1_addSpread 36 = .ok (.ifCond .ge 22, 3) := k_156 zcX1_addSpread rfl rfl rfl
theorem dX1_addSpread_39 : decode cX1_addSpread 39 = .ok (.aload_n 0, 1) := k_42 zcX1_addSpread rfl rfl
theorem dX1_addSpread_40 : decode cX1_addSpread 40 = .ok (.getfield 24, 3) := k_180 zcX1_addSpread rfl rfl rfl
theorem dX1_addSpread_43 : decode cX1_addSpread 43 = .ok (.iconst 1, 1) := k_4 zcX1_addSpread rfl rfl
theorem dX1_addSpread_44 : decode cX1_addSpread 44 = .ok (.aload_n 0, 1) := k_42 zcX1_addSpread rfl rfl
theorem dX1_addSpread_45 : decode cX1_addSpread 45 = .ok (.getfield 24, 3) := k_180 zcX1_addSpread rfl rfl rfl
theorem dX1_addSpread_48 : decode cX1_addSpread 48 = .ok (.iconst 1, 1) := k_4 zcX1_addSpread rfl rfl
theorem dX1_addSpread_49 : decode cX1_addSpread 49 = .ok (.iaload, 1) := k_46 zcX1_addSpread rfl rfl
theorem dX1_addSpread_50 : decode cX1_addSpread 50 = .ok (.iload_n 1, 1) := k_27 zcX1_addSpread rfl rfl
theorem dX1_addSpread_51 : decode cX1_addSpread 51 = .ok (.invokestatic 97, 3) := k_184 zcX1_addSpread rfl rfl rfl
theorem dX1_addSpread_54 : decode cX1_addSpread 54 = .ok (.iastore, 1) := k_79 zcX1_addSpread rfl rfl
theorem dX1_addSpread_55 : decode cX1_addSpread 55 = .ok (.goto 17, 3) := k_167 zcX1_addSpread rfl rfl rfl
theorem dX1_addSpread_58 : decode cX1_addSpread 58 = .ok (.iload_n 1, 1) := k_27 zcX1_addSpread rfl rfl
theorem dX1_addSpread_59 : decode cX1_addSpread 59 = .ok (.ifCond .ne 13, 3) := k_154 zcX1_addSpread rfl rfl rfl
theorem dX1_addSpread_62 : decode cX1_addSpread 62 = .ok (.aload_n 0, 1) := k_42 zcX1_addSpread rfl rfl
theorem dX1_addSpread_63 : decode cX1_addSpread 63 = .ok (.getfield 24, 3) := k_180 zcX1_addSpread rfl rfl rfl
theorem dX1_addSpread_66 : decode cX1_addSpread 66 = .ok (.iconst 2, 1) := k_5 zcX1_addSpread rfl rfl
theorem dX1_addSpread_67 : decode cX1_addSpread 67 = .ok (.dup2, 1) := k_92 zcX1_addSpread rfl rfl
theorem dX1_addSpread_68 : decode cX1_addSpread 68 = .ok (.iaload, 1) := k_46 zcX1_addSpread rfl rfl
theorem dX1_addSpread_69 : decode cX1_addSpread 69 = .ok (.iconst 1, 1) := k_4 zcX1_addSpread rfl rfl
theorem dX1_addSpread_70 : decode cX1_addSpread 70 = .ok (.iadd, 1) := k_96 zcX1_addSpread rfl rfl
theorem dX1_addSpread_71 : decode cX1_addSpread 71 = .ok (.iastore, 1) := k_79 zcX1_addSpread rfl rfl
theorem dX1_addSpread_72 : decode cX1_addSpread 72 = .ok (.return_, 1) := k_177 zcX1_addSpread rfl rfl
theorem dX1_addElement_0 : decode cX1_addElement 0 = .ok (.iload_n 1, 1) := k_27 zcX1_addElement rfl rfl
theorem dX1_addElement_1 : decode cX1_addElement 1 = .ok (.iconst 4, 1) := k_7 zcX1_addElement rfl rfl
theorem dX1_addElement_2 : decode cX1_addElement 2 = .ok (.invokestatic 93, 3) := k_184 zcX1_addElement rfl rfl rfl
theorem dX1_addElement_5 : decode cX1_addElement 5 = .ok (.istore_n 2, 1) := k_61 zcX1_addElement rfl rfl
theorem dX1_addElement_6 : decode cX1_addElement 6 = .ok (.aload_n 0, 1) := k_42 zcX1_addElement rfl rfl
theorem dX1_addElement_7 : decode cX1_addElement 7 = .ok (.getfield 24, 3) := k_180 zcX1_addElement rfl rfl rfl
theorem dX1_addElement_10 : decode cX1_addElement 10 = .ok (.iconst 0, 1) := k_3 zcX1_addElement rfl rfl
theorem dX1_addElement_11 : decode cX1_addElement 11 = .ok (.aload_n 0, 1) := k_42 zcX1_addElement rfl rfl
theorem dX1_addElement_12 : decode cX1_addElement 12 = .ok (.getfield 34, 3) := k_180 zcX1_addElement rfl rfl rfl
theorem dX1_addElement_15 : decode cX1_addElement 15 = .ok (.ifCond .ne 7, 3) := k_154 zcX1_addElement rfl rfl rfl
theorem dX1_addElement_18 : decode cX1_addElement 18 = .ok (.iload_n 2, 1) := k_28 zcX1_addElement rfl rfl
theorem dX1_addElement_19 : decode cX1_addElement 19 = .ok (.goto 18, 3) := k_167 zcX1_addElement rfl rfl rfl
theorem dX1_addElement_22 : decode cX1_addElement 22 = .ok (.aload_n 0, 1) := k_42 zcX1_addElement rfl rfl
theorem dX1_addElement_23 : decode cX1_addElement 23 = .ok (.getfield 9, 3) := k_180 zcX1_addElement rfl rfl rfl
theorem dX1_addElement_26 : decode cX1_addElement 26 = .ok (.iconst 4, 1) := k_7 zcX1_addElement rfl rfl
theorem dX1_addElement_27 : decode cX1_addElement 27 = .ok (.aload_n 0, 1) := k_42 zcX1_addElement rfl rfl
theorem dX1_addElement_28 : decode cX1_addElement 28 = .ok (.getfield 24, 3) := k_180 zcX1_addElement rfl rfl rfl
theorem dX1_addElement_31 : decode cX1_addElement 31 = .ok (.iconst 0, 1) := k_3 zcX1_addElement rfl rfl
theorem dX1_addElement_32 : decode cX1_addElement 32 = .ok (.iaload, 1) := k_46 zcX1_addElement rfl rfl
theorem dX1_addElement_33 : decode cX1_addElement 33 = .ok (.imul, 1) := k_104 zcX1_addElement rfl rfl
theorem dX1_addElement_34 : decode cX1_addElement 34 = .ok (.iload_n 2, 1) := k_28 zcX1_addElement rfl rfl
theorem dX1_addElement_35 : decode cX1_addElement 35 = .ok (.iadd, 1) := k_96 zcX1_addElement rfl rfl
theorem dX1_addElement_36 : decode cX1_addElement 36 = .ok (.iaload, 1) := k_46 zcX1_addElement rfl rfl
theorem dX1_addElement_37 : decode cX1_addElement 37 = .ok (.iastore, 1) := k_79 zcX1_addElement rfl rfl
theorem dX1_addElement_38 : decode cX1_addElement 38 = .ok (.return_, 1) := k_177 zcX1_addElement rfl rfl
theorem dX2_init_0 : decode cX2_init 0 = .ok (.aload_n 0, 1) := k_42 zcX2_init rfl rfl
theorem dX2_init_1 : decode cX2_init 1 = .ok (.invokespecial 3, 3) := k_183 zcX2_init rfl rfl rfl
theorem dX2_init_4 : decode cX2_init 4 = .ok (.aload_n 0, 1) := k_42 zcX2_init rfl rfl
theorem dX2_init_5 : decode cX2_init 5 = .ok (.iload_n 1, 1) := k_27 zcX2_init rfl rfl
theorem dX2_init_6 : decode cX2_init 6 = .ok (.putfield 9, 3) := k_181 zcX2_init rfl rfl rfl
theorem dX2_init_9 : decode cX2_init 9 = .ok (.aload_n 0, 1) := k_42 zcX2_init rfl rfl
theorem dX2_init_10 : decode cX2_init 10 = .ok (.bipush 121, 2) := k_16 zcX2_init rfl rfl rfl
theorem dX2_init_12 : decode cX2_init 12 = .ok (.newarray .int, 2) := k_188 zcX2_init rfl rfl rfl
theorem dX2_init_14 : decode cX2_init 14 = .ok (.putfield 15, 3) := k_181 zcX2_init rfl rfl rfl
theorem dX2_init_17 : decode cX2_init 17 = .ok (.aload_n 0, 1) := k_42 zcX2_init rfl rfl
theorem dX2_init_18 : decode cX2_init 18 = .ok (.bipush 121, 2) := k_16 zcX2_init rfl rfl rfl
theorem dX2_init_20 : decode cX2_init 20 = .ok (.newarray .int, 2) := k_188 zcX2_init rfl rfl rfl
theorem dX2_init_22 : decode cX2_init 22 = .ok (.putfield 19, 3) := k_181 zcX2_init rfl rfl rfl
theorem dX2_init_25 : decode cX2_init 25 = .ok (.aload_n 0, 1) := k_42 zcX2_init rfl rfl
theorem dX2_init_26 : decode cX2_init 26 = .ok (.bipush 121, 2) := k_16 zcX2_init rfl rfl rfl
theorem dX2_init_28 : decode cX2_init 28 = .ok (.newarray .int, 2) := k_188 zcX2_init rfl rfl rfl
theorem dX2_init_30 : decode cX2_init 30 = .ok (.putfield 22, 3) := k_181 zcX2_init rfl rfl rfl
theorem dX2_init_33 : decode cX2_init 33 = .ok (.aload_n 0, 1) := k_42 zcX2_init rfl rfl
theorem dX2_init_34 : decode cX2_init 34 = .ok (.new 25, 3) := k_187 zcX2_init rfl rfl rfl
theorem dX2_init_37 : decode cX2_init 37 = .ok (.dup, 1) := k_89 zcX2_init rfl rfl
theorem dX2_init_38 : decode cX2_init 38 = .ok (.invokespecial 27, 3) := k_183 zcX2_init rfl rfl rfl
theorem dX2_init_41 : decode cX2_init 41 = .ok (.putfield 28, 3) := k_181 zcX2_init rfl rfl rfl
theorem dX2_init_44 : decode cX2_init 44 = .ok (.return_, 1) := k_177 zcX2_init rfl rfl
theorem dX2_begin_0 : decode cX2_begin 0 = .ok (.aload_n 0, 1) := k_42 zcX2_begin rfl rfl
theorem dX2_begin_1 : decode cX2_begin 1 = .ok (.iconst 1, 1) := k_4 zcX2_begin rfl rfl
theorem dX2_begin_2 : decode cX2_begin 2 = .ok (.putfield 32, 3) := k_181 zcX2_begin rfl rfl rfl
theorem dX2_begin_5 : decode cX2_begin 5 = .ok (.aload_n 0, 1) := k_42 zcX2_begin rfl rfl
theorem dX2_begin_6 : decode cX2_begin 6 = .ok (.iload_n 1, 1) := k_27 zcX2_begin rfl rfl
theorem dX2_begin_7 : decode cX2_begin 7 = .ok (.putfield 36, 3) := k_181 zcX2_begin rfl rfl rfl
theorem dX2_begin_10 : decode cX2_begin 10 = .ok (.aload_n 0, 1) := k_42 zcX2_begin rfl rfl
theorem dX2_begin_11 : decode cX2_begin 11 = .ok (.iload_n 2, 1) := k_28 zcX2_begin rfl rfl
theorem dX2_begin_12 : decode cX2_begin 12 = .ok (.putfield 39, 3) := k_181 zcX2_begin rfl rfl rfl
theorem dX2_begin_15 : decode cX2_begin 15 = .ok (.aload_n 0, 1) := k_42 zcX2_begin rfl rfl
theorem dX2_begin_16 : decode cX2_begin 16 = .ok (.iload_n 3, 1) := k_29 zcX2_begin rfl rfl
theorem dX2_begin_17 : decode cX2_begin 17 = .ok (.putfield 42, 3) := k_181 zcX2_begin rfl rfl rfl
theorem dX2_begin_20 : decode cX2_begin 20 = .ok (.aload_n 0, 1) := k_42 zcX2_begin rfl rfl
theorem dX2_begin_21 : decode cX2_begin 21 = .ok (.iload 4, 2) := k_21 zcX2_begin rfl rfl rfl
theorem dX2_begin_23 : decode cX2_begin 23 = .ok (.putfield 45, 3) := k_181 zcX2_begin rfl rfl rfl
theorem dX2_begin_26 : decode cX2_begin 26 = .ok (.aload_n 0, 1) := k_42 zcX2_begin rfl rfl
theorem dX2_begin_27 : decode cX2_begin 27 = .ok (.iconst 0, 1) := k_3 zcX2_begin rfl rfl
theorem dX2_begin_28 : decode cX2_begin 28 = .ok (.putfield 48, 3) := k_181 zcX2_begin rfl rfl rfl
theorem dX2_begin_31 : decode cX2_begin 31 = .ok (.aload_n 0, 1) := k_42 zcX2_begin rfl rfl
theorem dX2_begin_32 : decode cX2_begin 32 = .ok (.iconst (-1), 1) := k_2 zcX2_begin rfl rfl
theorem dX2_begin_33 : decode cX2_begin 33 = .ok (.putfield 51, 3) := k_181 zcX2_begin rfl rfl rfl
theorem dX2_begin_36 : decode cX2_begin 36 = .ok (.aload_n 0, 1) := k_42 zcX2_begin rfl rfl
theorem dX2_begin_37 : decode cX2_begin 37 = .ok (.iconst 0, 1) := k_3 zcX2_begin rfl rfl
theorem dX2_begin_38 : decode cX2_begin 38 = .ok (.putfield 54, 3) := k_181 zcX2_begin rfl rfl rfl
theorem dX2_begin_41 : decode cX2_begin 41 = .ok (.aload_n 0, 1) := k_42 zcX2_begin rfl rfl
theorem dX2_begin_42 : decode cX2_begin 42 = .ok (.iconst 0, 1) := k_3 zcX2_begin rfl rfl
theorem dX2_begin_43 : decode cX2_begin 43 = .ok (.putfield 57, 3) := k_181 zcX2_begin rfl rfl rfl
theorem dX2_begin_46 : decode cX2_begin 46 = .ok (.aload_n 0, 1) := k_42 zcX2_begin rfl rfl
theorem dX2_begin_47 : decode cX2_begin 47 = .ok (.iconst 0, 1) := k_3 zcX2_begin rfl rfl
theorem dX2_begin_48 : decode cX2_begin 48 = .ok (.putfield 60, 3) := k_181 zcX2_begin rfl rfl rfl
theorem dX2_begin_51 : decode cX2_begin 51 = .ok (.aload_n 0, 1) := k_42 zcX2_begin rfl rfl
theorem dX2_begin_52 : decode cX2_begin 52 = .ok (.iconst 0, 1) := k_3 zcX2_begin rfl rfl
theorem dX2_begin_53 : decode cX2_begin 53 = .ok (.putfield 63, 3) := k_181 zcX2_begin rfl rfl rfl
theorem dX2_begin_56 : decode cX2_begin 56 = .ok (.aload_n 0, 1) := k_42 zcX2_begin rfl rfl
theorem dX2_begin_57 : decode cX2_begin 57 = .ok (.iconst 0, 1) := k_3 zcX2_begin rfl rfl
theorem dX2_begin_58 : decode cX2_begin 58 = .ok (.putfield 66, 3) := k_181 zcX2_begin rfl rfl rfl
theorem dX2_begin_61 : decode cX2_begin 61 = .ok (.aload_n 0, 1) := k_42 zcX2_begin rfl rfl
theorem dX2_begin_62 : decode cX2_begin 62 = .ok (.getfield 28, 3) := k_180 zcX2_begin rfl rfl rfl
theorem dX2_begin_65 : decode cX2_begin 65 = .ok (.invokevirtual 69, 3) := k_182 zcX2_begin rfl rfl rfl
theorem dX2_begin_68 : decode cX2_begin 68 = .ok (.return_, 1) := k_177 zcX2_begin rfl rfl
theorem dX2_copyFrom_0 : decode cX2_copyFrom 0 = .ok (.aload_n 0, 1) := k_42 zcX2_copyFrom rfl rfl
theorem dX2_copyFrom_1 : decode cX2_copyFrom 1 = .ok (.aload_n 1, 1) := k_43 zcX2_copyFrom rfl rfl
theorem dX2_copyFrom_2 : decode cX2_copyFrom 2 = .ok (.getfield 9, 3) := k_180 zcX2_copyFrom rfl rfl rfl
theorem dX2_copyFrom_5 : decode cX2_copyFrom 5 = .ok (.putfield 9, 3) := k_181 zcX2_copyFrom rfl rfl rfl
theorem dX2_copyFrom_8 : decode cX2_copyFrom 8 = .ok (.aload_n 0, 1) := k_42 zcX2_copyFrom rfl rfl
theorem dX2_copyFrom_9 : decode cX2_copyFrom 9 = .ok (.aload_n 1, 1) := k_43 zcX2_copyFrom rfl rfl
theorem dX2_copyFrom_10 : decode cX2_copyFrom 10 = .ok (.getfield 32, 3) := k_180 zcX2_copyFrom rfl rfl rfl
theorem dX2_copyFrom_13 : decode cX2_copyFrom 13 = .ok (.putfield 32, 3) := k_181 zcX2_copyFrom rfl rfl rfl
theorem dX2_copyFrom_16 : decode cX2_copyFrom 16 = .ok (.aload_n 0, 1) := k_42 zcX2_copyFrom rfl rfl
theorem dX2_copyFrom_17 : decode cX2_copyFrom 17 = .ok (.aload_n 1, 1) := k_43 zcX2_copyFrom rfl rfl
theorem dX2_copyFrom_18 : decode cX2_copyFrom 18 = .ok (.getfield 36, 3) := k_180 zcX2_copyFrom rfl rfl rfl
theorem dX2_copyFrom_21 : decode cX2_copyFrom 21 = .ok (.putfield 36, 3) := k_181 zcX2_copyFrom rfl rfl rfl
theorem dX2_copyFrom_24 : decode cX2_copyFrom 24 = .ok (.aload_n 0, 1) := k_42 zcX2_copyFrom rfl rfl
theorem dX2_copyFrom_25 : decode cX2_copyFrom 25 = .ok (.aload_n 1, 1) := k_43 zcX2_copyFrom rfl rfl
theorem dX2_copyFrom_26 : decode cX2_copyFrom 26 = .ok (.getfield 39, 3) := k_180 zcX2_copyFrom rfl rfl rfl
theorem dX2_copyFrom_29 : decode cX2_copyFrom 29 = .ok (.putfield 39, 3) := k_181 zcX2_copyFrom rfl rfl rfl
theorem dX2_copyFrom_32 : decode cX2_copyFrom 32 = .ok (.aload_n 0, 1) := k_42 zcX2_copyFrom rfl rfl
theorem dX2_copyFrom_33 : decode cX2_copyFrom 33 = .ok (.aload_n 1, 1) := k_43 zcX2_copyFrom rfl rfl
theorem dX2_copyFrom_34 : decode cX2_copyFrom 34 = .ok (.getfield 42, 3) := k_180 zcX2_copyFrom rfl rfl rfl
theorem dX2_copyFrom_37 : decode cX2_copyFrom 37 = .ok (.putfield 42, 3) := k_181 zcX2_copyFrom rfl rfl rfl
theorem dX2_copyFrom_40 : decode cX2_copyFrom 40 = .ok (.aload_n 0, 1) := k_42 zcX2_copyFrom rfl rfl
theorem dX2_copyFrom_41 : decode cX2_copyFrom 41 = .ok (.aload_n 1, 1) := k_43 zcX2_copyFrom rfl rfl
theorem dX2_copyFrom_42 : decode cX2_copyFrom 42 = .ok (.getfield 45, 3) := k_180 zcX2_copyFrom rfl rfl rfl
theorem dX2_copyFrom_45 : decode cX2_copyFrom 45 = .ok (.putfield 45, 3) := k_181 zcX2_copyFrom rfl rfl rfl
theorem dX2_copyFrom_48 : decode cX2_copyFrom 48 = .ok (.aload_n 0, 1) := k_42 zcX2_copyFrom rfl rfl
theorem dX2_copyFrom_49 : decode cX2_copyFrom 49 = .ok (.aload_n 1, 1) := k_43 zcX2_copyFrom rfl rfl
theorem dX2_copyFrom_50 : decode cX2_copyFrom 50 = .ok (.getfield 48, 3) := k_180 zcX2_copyFrom rfl rfl rfl
theorem dX2_copyFrom_53 : decode cX2_copyFrom 53 = .ok (.putfield 48, 3) := k_181 zcX2_copyFrom rfl rfl rfl
theorem dX2_copyFrom_56 : decode cX2_copyFrom 56 = .ok (.aload_n 1, 1) := k_43 zcX2_copyFrom rfl rfl
theorem dX2_copyFrom_57 : decode cX2_copyFrom 57 = .ok (.getfield 15, 3) := k_180 zcX2_copyFrom rfl rfl rfl
theorem dX2_copyFrom_60 : decode cX2_copyFrom 60 = .ok (.iconst 0, 1) := k_3 zcX2_copyFrom rfl rfl
theorem dX2_copyFrom_61 : decode cX2_copyFrom 61 = .ok (.aload_n 0, 1) := k_42 zcX2_copyFrom rfl rfl
theorem dX2_copyFrom_62 : decode cX2_copyFrom 62 = .ok (.getfield 15, 3) := k_180 zcX2_copyFrom rfl rfl rfl
theorem dX2_copyFrom_65 : decode cX2_copyFrom 65 = .ok (.iconst 0, 1) := k_3 zcX2_copyFrom rfl rfl
theorem dX2_copyFrom_66 : decode cX2_copyFrom 66 = .ok (.aload_n 0, 1) := k_42 zcX2_copyFrom rfl rfl
theorem dX2_copyFrom_67 : decode cX2_copyFrom 67 = .ok (.getfield 48, 3) := k_180 zcX2_copyFrom rfl rfl rfl
theorem dX2_copyFrom_70 : decode cX2_copyFrom 70 = .ok (.invokestatic 72, 3) := k_184 zcX2_copyFrom rfl rfl rfl
theorem dX2_copyFrom_73 : decode cX2_copyFrom 73 = .ok (.aload_n 1, 1) := k_43 zcX2_copyFrom rfl rfl
theorem dX2_copyFrom_74 : decode cX2_copyFrom 74 = .ok (.getfield 19, 3) := k_180 zcX2_copyFrom rfl rfl rfl
theorem dX2_copyFrom_77 : decode cX2_copyFrom 77 = .ok (.iconst 0, 1) := k_3 zcX2_copyFrom rfl rfl
theorem dX2_copyFrom_78 : decode cX2_copyFrom 78 = .ok (.aload_n 0, 1) := k_42 zcX2_copyFrom rfl rfl
theorem dX2_copyFrom_79 : decode cX2_copyFrom 79 = .ok (.getfield 19, 3) := k_180 zcX2_copyFrom rfl rfl rfl
theorem dX2_copyFrom_82 : decode cX2_copyFrom 82 = .ok (.iconst 0, 1) := k_3 zcX2_copyFrom rfl rfl
theorem dX2_copyFrom_83 : decode cX2_copyFrom 83 = .ok (.aload_n 0, 1) := k_42 zcX2_copyFrom rfl rfl
theorem dX2_copyFrom_84 : decode cX2_copyFrom 84 = .ok (.getfield 48, 3) := k_180 zcX2_copyFrom rfl rfl rfl
theorem dX2_copyFrom_87 : decode cX2_copyFrom 87 = .ok (.invokestatic 72, 3) := k_184 zcX2_copyFrom rfl rfl rfl
theorem dX2_copyFrom_90 : decode cX2_copyFrom 90 = .ok (.aload_n 1, 1) := k_43 zcX2_copyFrom rfl rfl
theorem dX2_copyFrom_91 : decode cX2_copyFrom 91 = .ok (.getfield 22, 3) := k_180 zcX2_copyFrom rfl rfl rfl
theorem dX2_copyFrom_94 : decode cX2_copyFrom 94 = .ok (.iconst 0, 1) := k_3 zcX2_copyFrom rfl rfl
theorem dX2_copyFrom_95 : decode cX2_copyFrom 95 = .ok (.aload_n 0, 1) := k_42 zcX2_copyFrom rfl rfl
theorem dX2_copyFrom_96 : decode cX2_copyFrom 96 = .ok (.getfield 22, 3) := k_180 zcX2_copyFrom rfl rfl rfl
theorem dX2_copyFrom_99 : decode cX2_copyFrom 99 = .ok (.iconst 0, 1) := k_3 zcX2_copyFrom rfl rfl
theorem dX2_copyFrom_100 : decode cX2_copyFrom 100 = .ok (.aload_n 0, 1) := k_42 zcX2_copyFrom rfl rfl
theorem dX2_copyFrom_101 : decode cX2_copyFrom 101 = .ok (.getfield 48, 3) := k_180 zcX2_copyFrom rfl rfl rfl
theorem dX2_copyFrom_104 : decode cX2_copyFrom 104 = .ok (.invokestatic 72, 3) := k_184 zcX2_copyFrom rfl rfl rfl
theorem dX2_copyFrom_107 : decode cX2_copyFrom 107 = .ok (.aload_n 0, 1) := k_42 zcX2_copyFrom rfl rfl
theorem dX2_copyFrom_108 : decode cX2_copyFrom 108 = .ok (.aload_n 1, 1) := k_43 zcX2_copyFrom rfl rfl
theorem dX2_copyFrom_109 : decode cX2_copyFrom 109 = .ok (.getfield 51, 3) := k_180 zcX2_copyFrom rfl rfl rfl
theorem dX2_copyFrom_112 : decode cX2_copyFrom 112 = .ok (.putfield 51, 3) := k_181 zcX2_copyFrom rfl rfl rfl
theorem dX2_copyFrom_115 : decode cX2_copyFrom 115 = .ok (.aload_n 0, 1) := k_42 zcX2_copyFrom rfl rfl
theorem dX2_copyFrom_116 : decode cX2_copyFrom 116 = .ok (.aload_n 1, 1) := k_43 zcX2_copyFrom rfl rfl
theorem dX2_copyFrom_117 : decode cX2_copyFrom 117 = .ok (.getfield 54, 3) := k_180 zcX2_copyFrom rfl rfl rfl
theorem dX2_copyFrom_120 : decode cX2_copyFrom 120 = .ok (.putfield 54, 3) := k_181 zcX2_copyFrom rfl rfl rfl
theorem dX2_copyFrom_123 : decode cX2_copyFrom 123 = .ok (.aload_n 0, 1) := k_42 zcX2_copyFrom rfl rfl
theorem dX2_copyFrom_124 : decode cX2_copyFrom 124 = .ok (.aload_n 1, 1) := k_43 zcX2_copyFrom rfl rfl
theorem dX2_copyFrom_125 : decode cX2_copyFrom 125 = .ok (.getfield 57, 3) := k_180 zcX2_copyFrom rfl rfl rfl
theorem dX2_copyFrom_128 : decode cX2_copyFrom 128 = .ok (.putfield 57, 3) := k_181 zcX2_copyFrom rfl rfl rfl
theorem dX2_copyFrom_131 : decode cX2_copyFrom 131 = .ok (.aload_n 0, 1) := k_42 zcX2_copyFrom rfl rfl
theorem dX2_copyFrom_132 : decode cX2_copyFrom 132 = .ok (.aload_n 1, 1) := k_43 zcX2_copyFrom rfl rfl
theorem dX2_copyFrom_133 : decode cX2_copyFrom 133 = .ok (.getfield 60, 3) := k_180 zcX2_copyFrom rfl rfl rfl
theorem dX2_copyFrom_136 : decode cX2_copyFrom 136 = .ok (.putfield 60, 3) := k_181 zcX2_copyFrom rfl rfl rfl
theorem dX2_copyFrom_139 : decode cX2_copyFrom 139 = .ok (.aload_n 0, 1) := k_42 zcX2_copyFrom rfl rfl
theorem dX2_copyFrom_140 : decode cX2_copyFrom 140 = .ok (.aload_n 1, 1) := k_43 zcX2_copyFrom rfl rfl
theorem dX2_copyFrom_141 : decode cX2_copyFrom 141 = .ok (.getfield 63, 3) := k_180 zcX2_copyFrom rfl rfl rfl
theorem dX2_copyFrom_144 : decode cX2_copyFrom 144 = .ok (.putfield 63, 3) := k_181 zcX2_copyFrom rfl rfl rfl
theorem dX2_copyFrom_147 : decode cX2_copyFrom 147 = .ok (.aload_n 0, 1) := k_42 zcX2_copyFrom rfl rfl
theorem dX2_copyFrom_148 : decode cX2_copyFrom 148 = .ok (.aload_n 1, 1) := k_43 zcX2_copyFrom rfl rfl
theorem dX2_copyFrom_149 : decode cX2_copyFrom 149 = .ok (.getfield 66, 3) := k_180 zcX2_copyFrom rfl rfl rfl
theorem dX2_copyFrom_152 : decode cX2_copyFrom 152 = .ok (.putfield 66, 3) := k_181 zcX2_copyFrom rfl rfl rfl
theorem dX2_copyFrom_155 : decode cX2_copyFrom 155 = .ok (.aload_n 0, 1) := k_42 zcX2_copyFrom rfl rfl
theorem dX2_copyFrom_156 : decode cX2_copyFrom 156 = .ok (.getfield 28, 3) := k_180 zcX2_copyFrom rfl rfl rfl
theorem dX2_copyFrom_159 : decode cX2_copyFrom 159 = .ok (.aload_n 1, 1) := k_43 zcX2_copyFrom rfl rfl
theorem dX2_copyFrom_160 : decode cX2_copyFrom 160 = .ok (.getfield 28, 3) := k_180 zcX2_copyFrom rfl rfl rfl
theorem dX2_copyFrom_163 : decode cX2_copyFrom 163 = .ok (.invokevirtual 78, 3) := k_182 zcX2_copyFrom rfl rfl rfl
theorem dX2_copyFrom_166 : decode cX2_copyFrom 166 = .ok (.return_, 1) := k_177 zcX2_copyFrom rfl rfl
theorem dX2_hasNumber_0 : decode cX2_hasNumber 0 = .ok (.iload_n 1, 1) := k_27 zcX2_hasNumber rfl rfl
theorem dX2_hasNumber_1 : decode cX2_hasNumber 1 = .ok (.iconst 0, 1) := k_3 zcX2_hasNumber rfl rfl
theorem dX2_hasNumber_2 : decode cX2_hasNumber 2 = .ok (.getstatic 82, 3) := k_178 zcX2_hasNumber rfl rfl rfl
theorem dX2_hasNumber_5 : decode cX2_hasNumber 5 = .ok (.aload_n 0, 1) := k_42 zcX2_hasNumber rfl rfl
theorem dX2_hasNumber_6 : decode cX2_hasNumber 6 = .ok (.getfield 36, 3) := k_180 zcX2_hasNumber rfl rfl rfl
theorem dX2_hasNumber_9 : decode cX2_hasNumber 9 = .ok (.iaload, 1) := k_46 zcX2_hasNumber rfl rfl
theorem dX2_hasNumber_10 : decode cX2_hasNumber 10 = .ok (.iconst 1, 1) := k_4 zcX2_hasNumber rfl rfl
theorem dX2_hasNumber_11 : decode cX2_hasNumber 11 = .ok (.isub, 1) := k_100 zcX2_hasNumber rfl rfl
theorem dX2_hasNumber_12 : decode cX2_hasNumber 12 = .ok (.invokestatic 85, 3) := k_184 zcX2_hasNumber rfl rfl rfl
theorem dX2_hasNumber_15 : decode cX2_hasNumber 15 = .ok (.ireturn, 1) := k_172 zcX2_hasNumber rfl rfl
theorem dX2_isFull_0 : decode cX2_isFull 0 = .ok (.aload_n 0, 1) := k_42 zcX2_isFull rfl rfl
theorem dX2_isFull_1 : decode cX2_isFull 1 = .ok (.getfield 39, 3) := k_180 zcX2_isFull rfl rfl rfl
theorem dX2_isFull_4 : decode cX2_isFull 4 = .ok (.iconst 1, 1) := k_4 zcX2_isFull rfl rfl
theorem dX2_isFull_5 : decode cX2_isFull 5 = .ok (.if_icmp .eq 16, 3) := k_159 zcX2_isFull rfl rfl rfl
theorem dX2_isFull_8 : decode cX2_isFull 8 = .ok (.aload_n 0, 1) := k_42 zcX2_isFull rfl rfl
theorem dX2_isFull_9 : decode cX2_isFull 9 = .ok (.getfield 48, 3) := k_180 zcX2_isFull rfl rfl rfl
theorem dX2_isFull_12 : decode cX2_isFull 12 = .ok (.bipush 120, 2) := k_16 zcX2_isFull rfl rfl rfl
theorem dX2_isFull_14 : decode cX2_isFull 14 = .ok (.if_icmp .lt 7, 3) := k_161 zcX2_isFull rfl rfl rfl
theorem dX2_isFull_17 : decode cX2_isFull 17 = .ok (.iconst 1, 1) := k_4 zcX2_isFull rfl rfl
theorem dX2_isFull_18 : decode cX2_isFull 18 = .ok (.goto 4, 3) := k_167 zcX2_isFull rfl rfl rfl
theorem dX2_isFull_21 : decode cX2_isFull 21 = .ok (.iconst 0, 1) := k_3 zcX2_isFull rfl rfl
theorem dX2_isFull_22 : decode cX2_isFull 22 = .ok (.ireturn, 1) := k_172 zcX2_isFull rfl rfl
theorem dX2_isTooLate_0 : decode cX2_isTooLate 0 = .ok (.iload_n 1, 1) := k_27 zcX2_isTooLate rfl rfl
theorem dX2_isTooLate_1 : decode cX2_isTooLate 1 = .ok (.aload_n 0, 1) := k_42 zcX2_isTooLate rfl rfl
theorem dX2_isTooLate_2 : decode cX2_isTooLate 2 = .ok (.getfield 51, 3) := k_180 zcX2_isTooLate rfl rfl rfl
theorem dX2_isTooLate_5 : decode cX2_isTooLate 5 = .ok (.aload_n 0, 1) := k_42 zcX2_isTooLate rfl rfl
theorem dX2_isTooLate_6 : decode cX2_isTooLate 6 = .ok (.getfield 45, 3) := k_180 zcX2_isTooLate rfl rfl rfl
theorem dX2_isTooLate_9 : decode cX2_isTooLate 9 = .ok (.isub, 1) := k_100 zcX2_isTooLate rfl rfl
theorem dX2_isTooLate_10 : decode cX2_isTooLate 10 = .ok (.if_icmp .ge 7, 3) := k_162 zcX2_isTooLate rfl rfl rfl
theorem dX2_isTooLate_13 : decode cX2_isTooLate 13 = .ok (.iconst 1, 1) := k_4 zcX2_isTooLate rfl rfl
theorem dX2_isTooLate_14 : decode cX2_isTooLate 14 = .ok (.goto 4, 3) := k_167 zcX2_isTooLate rfl rfl rfl
theorem dX2_isTooLate_17 : decode cX2_isTooLate 17 = .ok (.iconst 0, 1) := k_3 zcX2_isTooLate rfl rfl
theorem dX2_isTooLate_18 : decode cX2_isTooLate 18 = .ok (.ireturn, 1) := k_172 zcX2_isTooLate rfl rfl
theorem dX2_heldUntil_0 : decode cX2_heldUntil 0 = .ok (.aload_n 0, 1) := k_42 zcX2_heldUntil rfl rfl
theorem dX2_heldUntil_1 : decode cX2_heldUntil 1 = .ok (.getfield 48, 3) := k_180 zcX2_heldUntil rfl rfl rfl
theorem dX2_heldUntil_4 : decode cX2_heldUntil 4 = .ok (.istore_n 3, 1) := k_62 zcX2_heldUntil rfl rfl
theorem dX2_heldUntil_5 : decode cX2_heldUntil 5 = .ok (.iload_n 3, 1) := k_29 zcX2_heldUntil rfl rfl
theorem dX2_heldUntil_6 : decode cX2_heldUntil 6 = .ok (.ifCond .le 23, 3) := k_158 zcX2_heldUntil rfl rfl rfl
theorem dX2_heldUntil_9 : decode cX2_heldUntil 9 = .ok (.aload_n 0, 1) := k_42 zcX2_heldUntil rfl rfl
theorem dX2_heldUntil_10 : decode cX2_heldUntil 10 = .ok (.getfield 15, 3) := k_180 zcX2_heldUntil rfl rfl rfl
theorem dX2_heldUntil_13 : decode cX2_heldUntil 13 = .ok (.iload_n 3, 1) := k_29 zcX2_heldUntil rfl rfl
theorem dX2_heldUntil_14 : decode cX2_heldUntil 14 = .ok (.iconst 1, 1) := k_4 zcX2_heldUntil rfl rfl
theorem dX2_heldUntil_15 : decode cX2_heldUntil 15 = .ok (.isub, 1) := k_100 zcX2_heldUntil rfl rfl
theorem dX2_heldUntil_16 : decode cX2_heldUntil 16 = .ok (.iaload, 1) := k_46 zcX2_heldUntil rfl rfl
theorem dX2_heldUntil_17 : decode cX2_heldUntil 17 = .ok (.i2l, 1) := k_133 zcX2_heldUntil rfl rfl
theorem dX2_heldUntil_18 : decode cX2_heldUntil 18 = .ok (.lload_n 1, 1) := k_31 zcX2_heldUntil rfl rfl
theorem dX2_heldUntil_19 : decode cX2_heldUntil 19 = .ok (.lcmp, 1) := k_148 zcX2_heldUntil rfl rfl
theorem dX2_heldUntil_20 : decode cX2_heldUntil 20 = .ok (.ifCond .le 9, 3) := k_158 zcX2_heldUntil rfl rfl rfl
theorem dX2_heldUntil_23 : decode cX2_heldUntil 23 = .ok (.iinc 3 (-1), 3) := k_132 zcX2_heldUntil rfl rfl rfl rfl
theorem dX2_heldUntil_26 : decode cX2_heldUntil 26 = .ok (.goto (-21), 3) := k_167 zcX2_heldUntil rfl rfl rfl
theorem dX2_heldUntil_29 : decode cX2_heldUntil 29 = .ok (.iload_n 3, 1) := k_29 zcX2_heldUntil rfl rfl
theorem dX2_heldUntil_30 : decode cX2_heldUntil 30 = .ok (.ireturn, 1) := k_172 zcX2_heldUntil rfl rfl
theorem dX2_startsSession_0 : decode cX2_startsSession 0 = .ok (.iload_n 1, 1) := k_27 zcX2_startsSession rfl rfl
theorem dX2_startsSession_1 : decode cX2_startsSession 1 = .ok (.ifCond .eq 22, 3) := k_153 zcX2_startsSession rfl rfl rfl
theorem dX2_startsSession_4 : decode cX2_startsSession 4 = .ok (.aload_n 0, 1) := k_42 zcX2_startsSession rfl rfl
theorem dX2_startsSession_5 : decode cX2_startsSession 5 = .ok (.getfield 15, 3) := k_180 zcX2_startsSession rfl rfl rfl
theorem dX2_startsSession_8 : decode cX2_startsSession 8 = .ok (.iload_n 1, 1) := k_27 zcX2_startsSession rfl rfl
theorem dX2_startsSession_9 : decode cX2_startsSession 9 = .ok (.iaload, 1) := k_46 zcX2_startsSession rfl rfl
theorem dX2_startsSession_10 : decode cX2_startsSession 10 = .ok (.aload_n 0, 1) := k_42 zcX2_startsSession rfl rfl
theorem dX2_startsSession_11 : decode cX2_startsSession 11 = .ok (.getfield 15, 3) := k_180 zcX2_startsSession rfl rfl rfl
theorem dX2_startsSession_14 : decode cX2_startsSession 14 = .ok (.iload_n 1, 1) := k_27 zcX2_startsSession rfl rfl
theorem dX2_startsSession_15 : decode cX2_startsSession 15 = .ok (.iconst 1, 1) := k_4 zcX2_startsSession rfl rfl
theorem dX2_startsSession_16 : decode cX2_startsSession 16 = .ok (.isub, 1) := k_100 zcX2_startsSession rfl rfl
theorem dX2_startsSession_17 : decode cX2_startsSession 17 = .ok (.iaload, 1) := k_46 zcX2_startsSession rfl rfl
theorem dX2_startsSession_18 : decode cX2_startsSession 18 = .ok (.isub, 1) := k_100 zcX2_startsSession rfl rfl
theorem dX2_startsSession_19 : decode cX2_startsSession 19 = .ok (.iload_n 2, 1) := k_28 zcX2_startsSession rfl rfl
theorem dX2_startsSession_20 : decode cX2_startsSession 20 = .ok (.if_icmp .le 7, 3) := k_164 zcX2_startsSession rfl rfl rfl
theorem dX2_startsSession_23 : decode cX2_startsSession 23 = .ok (.iconst 1, 1) := k_4 zcX2_startsSession rfl rfl
theorem dX2_startsSession_24 : decode cX2_startsSession 24 = .ok (.goto 4, 3) := k_167 zcX2_startsSession rfl rfl rfl
theorem dX2_startsSession_27 : decode cX2_startsSession 27 = .ok (.iconst 0, 1) := k_3 zcX2_startsSession rfl rfl
theorem dX2_startsSession_28 : decode cX2_startsSession 28 = .ok (.ireturn, 1) := k_172 zcX2_startsSession rfl rfl
theorem dX2_goes_0 : decode cX2_goes 0 = .ok (.aload_n 0, 1) := k_42 zcX2_goes rfl rfl
theorem dX2_goes_1 : decode cX2_goes 1 = .ok (.getfield 39, 3) := k_180 zcX2_goes rfl rfl rfl
theorem dX2_goes_4 : decode cX2_goes 4 = .ok (.iconst 1, 1) := k_4 zcX2_goes rfl rfl
theorem dX2_goes_5 : decode cX2_goes 5 = .ok (.if_icmp .ne 11, 3) := k_160 zcX2_goes rfl rfl rfl
theorem dX2_goes_8 : decode cX2_goes 8 = .ok (.iload_n 1, 1) := k_27 zcX2_goes rfl rfl
theorem dX2_goes_9 : decode cX2_goes 9 = .ok (.aload_n 0, 1) := k_42 zcX2_goes rfl rfl
theorem dX2_goes_10 : decode cX2_goes 10 = .ok (.getfield 42, 3) := k_180 zcX2_goes rfl rfl rfl
theorem dX2_goes_13 : decode cX2_goes 13 = .ok (.if_icmp .gt 21, 3) := k_163 zcX2_goes rfl rfl rfl
theorem dX2_goes_16 : decode cX2_goes 16 = .ok (.aload_n 0, 1) := k_42 zcX2_goes rfl rfl
theorem dX2_goes_17 : decode cX2_goes 17 = .ok (.getfield 39, 3) := k_180 zcX2_goes rfl rfl rfl
theorem dX2_goes_20 : decode cX2_goes 20 = .ok (.iconst 2, 1) := k_5 zcX2_goes rfl rfl
theorem dX2_goes_21 : decode cX2_goes 21 = .ok (.if_icmp .ne 17, 3) := k_160 zcX2_goes rfl rfl rfl
theorem dX2_goes_24 : decode cX2_goes 24 = .ok (.iload_n 2, 1) := k_28 zcX2_goes rfl rfl
theorem dX2_goes_25 : decode cX2_goes 25 = .ok (.iload_n 3, 1) := k_29 zcX2_goes rfl rfl
theorem dX2_goes_26 : decode cX2_goes 26 = .ok (.aload_n 0, 1) := k_42 zcX2_goes rfl rfl
theorem dX2_goes_27 : decode cX2_goes 27 = .ok (.getfield 42, 3) := k_180 zcX2_goes rfl rfl rfl
theorem dX2_goes_30 : decode cX2_goes 30 = .ok (.isub, 1) := k_100 zcX2_goes rfl rfl
theorem dX2_goes_31 : decode cX2_goes 31 = .ok (.if_icmp .gt 7, 3) := k_163 zcX2_goes rfl rfl rfl
theorem dX2_goes_34 : decode cX2_goes 34 = .ok (.iconst 1, 1) := k_4 zcX2_goes rfl rfl
theorem dX2_goes_35 : decode cX2_goes 35 = .ok (.goto 4, 3) := k_167 zcX2_goes rfl rfl rfl
theorem dX2_goes_38 : decode cX2_goes 38 = .ok (.iconst 0, 1) := k_3 zcX2_goes rfl rfl
theorem dX2_goes_39 : decode cX2_goes 39 = .ok (.ireturn, 1) := k_172 zcX2_goes rfl rfl
theorem dX2_insert_0 : decode cX2_insert 0 = .ok (.aload_n 0, 1) := k_42 zcX2_insert rfl rfl
theorem dX2_insert_1 : decode cX2_insert 1 = .ok (.aload_n 0, 1) := k_42 zcX2_insert rfl rfl
theorem dX2_insert_2 : decode cX2_insert 2 = .ok (.getfield 48, 3) := k_180 zcX2_insert rfl rfl rfl
theorem dX2_insert_5 : decode cX2_insert 5 = .ok (.iload_n 1, 1) := k_27 zcX2_insert rfl rfl
theorem dX2_insert_6 : decode cX2_insert 6 = .ok (.isub, 1) := k_100 zcX2_insert rfl rfl
theorem dX2_insert_7 : decode cX2_insert 7 = .ok (.putfield 63, 3) := k_181 zcX2_insert rfl rfl rfl
theorem dX2_insert_10 : decode cX2_insert 10 = .ok (.aload_n 0, 1) := k_42 zcX2_insert rfl rfl
theorem dX2_insert_11 : decode cX2_insert 11 = .ok (.iload_n 1, 1) := k_27 zcX2_insert rfl rfl
theorem dX2_insert_12 : decode cX2_insert 12 = .ok (.iload_n 1, 1) := k_27 zcX2_insert rfl rfl
theorem dX2_insert_13 : decode cX2_insert 13 = .ok (.iconst 1, 1) := k_4 zcX2_insert rfl rfl
theorem dX2_insert_14 : decode cX2_insert 14 = .ok (.iadd, 1) := k_96 zcX2_insert rfl rfl
theorem dX2_insert_15 : decode cX2_insert 15 = .ok (.aload_n 0, 1) := k_42 zcX2_insert rfl rfl
theorem dX2_insert_16 : decode cX2_insert 16 = .ok (.getfield 63, 3) := k_180 zcX2_insert rfl rfl rfl
theorem dX2_insert_19 : decode cX2_insert 19 = .ok (.invokevirtual 89, 3) := k_182 zcX2_insert rfl rfl rfl
theorem dX2_insert_22 : decode cX2_insert 22 = .ok (.aload_n 0, 1) := k_42 zcX2_insert rfl rfl
theorem dX2_insert_23 : decode cX2_insert 23 = .ok (.getfield 15, 3) := k_180 zcX2_insert rfl rfl rfl
theorem dX2_insert_26 : decode cX2_insert 26 = .ok (.iload_n 1, 1) := k_27 zcX2_insert rfl rfl
theorem dX2_insert_27 : decode cX2_insert 27 = .ok (.iload_n 2, 1) := k_28 zcX2_insert rfl rfl
theorem dX2_insert_28 : decode cX2_insert 28 = .ok (.iastore, 1) := k_79 zcX2_insert rfl rfl
theorem dX2_insert_29 : decode cX2_insert 29 = .ok (.aload_n 0, 1) := k_42 zcX2_insert rfl rfl
theorem dX2_insert_30 : decode cX2_insert 30 = .ok (.getfield 19, 3) := k_180 zcX2_insert rfl rfl rfl
theorem dX2_insert_33 : decode cX2_insert 33 = .ok (.iload_n 1, 1) := k_27 zcX2_insert rfl rfl
theorem dX2_insert_34 : decode cX2_insert 34 = .ok (.iload_n 3, 1) := k_29 zcX2_insert rfl rfl
theorem dX2_insert_35 : decode cX2_insert 35 = .ok (.iastore, 1) := k_79 zcX2_insert rfl rfl
theorem dX2_insert_36 : decode cX2_insert 36 = .ok (.aload_n 0, 1) := k_42 zcX2_insert rfl rfl
theorem dX2_insert_37 : decode cX2_insert 37 = .ok (.getfield 22, 3) := k_180 zcX2_insert rfl rfl rfl
theorem dX2_insert_40 : decode cX2_insert 40 = .ok (.iload_n 1, 1) := k_27 zcX2_insert rfl rfl
theorem dX2_insert_41 : decode cX2_insert 41 = .ok (.aload_n 0, 1) := k_42 zcX2_insert rfl rfl
theorem dX2_insert_42 : decode cX2_insert 42 = .ok (.getfield 57, 3) := k_180 zcX2_insert rfl rfl rfl
theorem dX2_insert_45 : decode cX2_insert 45 = .ok (.iastore, 1) := k_79 zcX2_insert rfl rfl
theorem dX2_insert_46 : decode cX2_insert 46 = .ok (.aload_n 0, 1) := k_42 zcX2_insert rfl rfl
theorem dX2_insert_47 : decode cX2_insert 47 = .ok (.dup, 1) := k_89 zcX2_insert rfl rfl
theorem dX2_insert_48 : decode cX2_insert 48 = .ok (.getfield 48, 3) := k_180 zcX2_insert rfl rfl rfl
theorem dX2_insert_51 : decode cX2_insert 51 = .ok (.iconst 1, 1) := k_4 zcX2_insert rfl rfl
theorem dX2_insert_52 : decode cX2_insert 52 = .ok (.iadd, 1) := k_96 zcX2_insert rfl rfl
theorem dX2_insert_53 : decode cX2_insert 53 = .ok (.putfield 48, 3) := k_181 zcX2_insert rfl rfl rfl
theorem dX2_insert_56 : decode cX2_insert 56 = .ok (.aload_n 0, 1) := k_42 zcX2_insert rfl rfl
theorem dX2_insert_57 : decode cX2_insert 57 = .ok (.dup, 1) := k_89 zcX2_insert rfl rfl
theorem dX2_insert_58 : decode cX2_insert 58 = .ok (.getfield 57, 3) := k_180 zcX2_insert rfl rfl rfl
theorem dX2_insert_61 : decode cX2_insert 61 = .ok (.iconst 1, 1) := k_4 zcX2_insert rfl rfl
theorem dX2_insert_62 : decode cX2_insert 62 = .ok (.iadd, 1) := k_96 zcX2_insert rfl rfl
theorem dX2_insert_63 : decode cX2_insert 63 = .ok (.putfield 57, 3) := k_181 zcX2_insert rfl rfl rfl
theorem dX2_insert_66 : decode cX2_insert 66 = .ok (.aload_n 0, 1) := k_42 zcX2_insert rfl rfl
theorem dX2_insert_67 : decode cX2_insert 67 = .ok (.aload_n 0, 1) := k_42 zcX2_insert rfl rfl
theorem dX2_insert_68 : decode cX2_insert 68 = .ok (.getfield 51, 3) := k_180 zcX2_insert rfl rfl rfl
theorem dX2_insert_71 : decode cX2_insert 71 = .ok (.iload_n 2, 1) := k_28 zcX2_insert rfl rfl
theorem dX2_insert_72 : decode cX2_insert 72 = .ok (.invokestatic 93, 3) := k_184 zcX2_insert rfl rfl rfl
theorem dX2_insert_75 : decode cX2_insert 75 = .ok (.putfield 51, 3) := k_181 zcX2_insert rfl rfl rfl
theorem dX2_insert_78 : decode cX2_insert 78 = .ok (.return_, 1) := k_177 zcX2_insert rfl rfl
theorem dX2_remove_0 : decode cX2_remove 0 = .ok (.aload_n 0, 1) := k_42 zcX2_remove rfl rfl
theorem dX2_remove_1 : decode cX2_remove 1 = .ok (.iload_n 1, 1) := k_27 zcX2_remove rfl rfl
theorem dX2_remove_2 : decode cX2_remove 2 = .ok (.iconst 1, 1) := k_4 zcX2_remove rfl rfl
theorem dX2_remove_3 : decode cX2_remove 3 = .ok (.iadd, 1) := k_96 zcX2_remove rfl rfl
theorem dX2_remove_4 : decode cX2_remove 4 = .ok (.iload_n 1, 1) := k_27 zcX2_remove rfl rfl
theorem dX2_remove_5 : decode cX2_remove 5 = .ok (.aload_n 0, 1) := k_42 zcX2_remove rfl rfl
theorem dX2_remove_6 : decode cX2_remove 6 = .ok (.getfield 48, 3) := k_180 zcX2_remove rfl rfl rfl
theorem dX2_remove_9 : decode cX2_remove 9 = .ok (.iload_n 1, 1) := k_27 zcX2_remove rfl rfl
theorem dX2_remove_10 : decode cX2_remove 10 = .ok (.isub, 1) := k_100 zcX2_remove rfl rfl
theorem dX2_remove_11 : decode cX2_remove 11 = .ok (.iconst 1, 1) := k_4 zcX2_remove rfl rfl
theorem dX2_remove_12 : decode cX2_remove 12 = .ok (.isub, 1) := k_100 zcX2_remove rfl rfl
theorem dX2_remove_13 : decode cX2_remove 13 = .ok (.invokevirtual 89, 3) := k_182 zcX2_remove rfl rfl rfl
theorem dX2_remove_16 : decode cX2_remove 16 = .ok (.aload_n 0, 1) := k_42 zcX2_remove rfl rfl
theorem dX2_remove_17 : decode cX2_remove 17 = .ok (.dup, 1) := k_89 zcX2_remove rfl rfl
theorem dX2_remove_18 : decode cX2_remove 18 = .ok (.getfield 48, 3) := k_180 zcX2_remove rfl rfl rfl
theorem dX2_remove_21 : decode cX2_remove 21 = .ok (.iconst 1, 1) := k_4 zcX2_remove rfl rfl
theorem dX2_remove_22 : decode cX2_remove 22 = .ok (.isub, 1) := k_100 zcX2_remove rfl rfl
theorem dX2_remove_23 : decode cX2_remove 23 = .ok (.putfield 48, 3) := k_181 zcX2_remove rfl rfl rfl
theorem dX2_remove_26 : decode cX2_remove 26 = .ok (.return_, 1) := k_177 zcX2_remove rfl rfl
theorem dX2_shift_0 : decode cX2_shift 0 = .ok (.aload_n 0, 1) := k_42 zcX2_shift rfl rfl
theorem dX2_shift_1 : decode cX2_shift 1 = .ok (.getfield 15, 3) := k_180 zcX2_shift rfl rfl rfl
theorem dX2_shift_4 : decode cX2_shift 4 = .ok (.iload_n 1, 1) := k_27 zcX2_shift rfl rfl
theorem dX2_shift_5 : decode cX2_shift 5 = .ok (.aload_n 0, 1) := k_42 zcX2_shift rfl rfl
theorem dX2_shift_6 : decode cX2_shift 6 = .ok (.getfield 15, 3) := k_180 zcX2_shift rfl rfl rfl
theorem dX2_shift_9 : decode cX2_shift 9 = .ok (.iload_n 2, 1) := k_28 zcX2_shift rfl rfl
theorem dX2_shift_10 : decode cX2_shift 10 = .ok (.iload_n 3, 1) := k_29 zcX2_shift rfl rfl
theorem dX2_shift_11 : decode cX2_shift 11 = .ok (.invokestatic 72, 3) := k_184 zcX2_shift rfl rfl rfl
theorem dX2_shift_14 : decode cX2_shift 14 = .ok (.aload_n 0, 1) := k_42 zcX2_shift rfl rfl
theorem dX2_shift_15 : decode cX2_shift 15 = .ok (.getfield 19, 3) := k_180 zcX2_shift rfl rfl rfl
theorem dX2_shift_18 : decode cX2_shift 18 = .ok (.iload_n 1, 1) := k_27 zcX2_shift rfl rfl
theorem dX2_shift_19 : decode cX2_shift 19 = .ok (.aload_n 0, 1) := k_42 zcX2_shift rfl rfl
theorem dX2_shift_20 : decode cX2_shift 20 = .ok (.getfield 19, 3) := k_180 zcX2_shift rfl rfl rfl
theorem dX2_shift_23 : decode cX2_shift 23 = .ok (.iload_n 2, 1) := k_28 zcX2_shift rfl rfl
theorem dX2_shift_24 : decode cX2_shift 24 = .ok (.iload_n 3, 1) := k_29 zcX2_shift rfl rfl
theorem dX2_shift_25 : decode cX2_shift 25 = .ok (.invokestatic 72, 3) := k_184 zcX2_shift rfl rfl rfl
theorem dX2_shift_28 : decode cX2_shift 28 = .ok (.aload_n 0, 1) := k_42 zcX2_shift rfl rfl
theorem dX2_shift_29 : decode cX2_shift 29 = .ok (.getfield 22, 3) := k_180 zcX2_shift rfl rfl rfl
theorem dX2_shift_32 : decode cX2_shift 32 = .ok (.iload_n 1, 1) := k_27 zcX2_shift rfl rfl
theorem dX2_shift_33 : decode cX2_shift 33 = .ok (.aload_n 0, 1) := k_42 zcX2_shift rfl rfl
theorem dX2_shift_34 : decode cX2_shift 34 = .ok (.getfield 22, 3) := k_180 zcX2_shift rfl rfl rfl
theorem dX2_shift_37 : decode cX2_shift 37 = .ok (.iload_n 2, 1) := k_28 zcX2_shift rfl rfl
theorem dX2_shift_38 : decode cX2_shift 38 = .ok (.iload_n 3, 1) := k_29 zcX2_shift rfl rfl
theorem dX2_shift_39 : decode cX2_shift 39 = .ok (.invokestatic 72, 3) := k_184 zcX2_shift rfl rfl rfl
theorem dX2_shift_42 : decode cX2_shift 42 = .ok (.return_, 1) := k_177 zcX2_shift rfl rfl
theorem dX2_told_0 : decode cX2_told 0 = .ok (.iload_n 1, 1) := k_27 zcX2_told rfl rfl
theorem dX2_told_1 : decode cX2_told 1 = .ok (.tableswitch 114 0 10 #[59, 64, 69, 74, 79, 84, 89, 94, 99, 104, 109], 59) := by decide +kernel
theorem dX2_told_60 : decode cX2_told 60 = .ok (.aload_n 0, 1) := k_42 zcX2_told rfl rfl
theorem dX2_told_61 : decode cX2_told 61 = .ok (.getfield 36, 3) := k_180 zcX2_told rfl rfl rfl
theorem dX2_told_64 : decode cX2_told 64 = .ok (.ireturn, 1) := k_172 zcX2_told rfl rfl
theorem dX2_told_65 : decode cX2_told 65 = .ok (.aload_n 0, 1) := k_42 zcX2_told rfl rfl
theorem dX2_told_66 : decode cX2_told 66 = .ok (.getfield 39, 3) := k_180 zcX2_told rfl rfl rfl
theorem dX2_told_69 : decode cX2_told 69 = .ok (.ireturn, 1) := k_172 zcX2_told rfl rfl
theorem dX2_told_70 : decode cX2_told 70 = .ok (.aload_n 0, 1) := k_42 zcX2_told rfl rfl
theorem dX2_told_71 : decode cX2_told 71 = .ok (.getfield 42, 3) := k_180 zcX2_told rfl rfl rfl
theorem dX2_told_74 : decode cX2_told 74 = .ok (.ireturn, 1) := k_172 zcX2_told rfl rfl
theorem dX2_told_75 : decode cX2_told 75 = .ok (.aload_n 0, 1) := k_42 zcX2_told rfl rfl
theorem dX2_told_76 : decode cX2_told 76 = .ok (.getfield 45, 3) := k_180 zcX2_told rfl rfl rfl
theorem dX2_told_79 : decode cX2_told 79 = .ok (.ireturn, 1) := k_172 zcX2_told rfl rfl
theorem dX2_told_80 : decode cX2_told 80 = .ok (.aload_n 0, 1) := k_42 zcX2_told rfl rfl
theorem dX2_told_81 : decode cX2_told 81 = .ok (.getfield 48, 3) := k_180 zcX2_told rfl rfl rfl
theorem dX2_told_84 : decode cX2_told 84 = .ok (.ireturn, 1) := k_172 zcX2_told rfl rfl
theorem dX2_told_85 : decode cX2_told 85 = .ok (.aload_n 0, 1) := k_42 zcX2_told rfl rfl
theorem dX2_told_86 : decode cX2_told 86 = .ok (.getfield 51, 3) := k_180 zcX2_told rfl rfl rfl
theorem dX2_told_89 : decode cX2_told 89 = .ok (.ireturn, 1) := k_172 zcX2_told rfl rfl
theorem dX2_told_90 : decode cX2_told 90 = .ok (.aload_n 0, 1) := k_42 zcX2_told rfl rfl
theorem dX2_told_91 : decode cX2_told 91 = .ok (.getfield 54, 3) := k_180 zcX2_told rfl rfl rfl
theorem dX2_told_94 : decode cX2_told 94 = .ok (.ireturn, 1) := k_172 zcX2_told rfl rfl
theorem dX2_told_95 : decode cX2_told 95 = .ok (.aload_n 0, 1) := k_42 zcX2_told rfl rfl
theorem dX2_told_96 : decode cX2_told 96 = .ok (.getfield 57, 3) := k_180 zcX2_told rfl rfl rfl
theorem dX2_told_99 : decode cX2_told 99 = .ok (.ireturn, 1) := k_172 zcX2_told rfl rfl
theorem dX2_told_100 : decode cX2_told 100 = .ok (.aload_n 0, 1) := k_42 zcX2_told rfl rfl
theorem dX2_told_101 : decode cX2_told 101 = .ok (.getfield 60, 3) := k_180 zcX2_told rfl rfl rfl
theorem dX2_told_104 : decode cX2_told 104 = .ok (.ireturn, 1) := k_172 zcX2_told rfl rfl
theorem dX2_told_105 : decode cX2_told 105 = .ok (.aload_n 0, 1) := k_42 zcX2_told rfl rfl
theorem dX2_told_106 : decode cX2_told 106 = .ok (.getfield 63, 3) := k_180 zcX2_told rfl rfl rfl
theorem dX2_told_109 : decode cX2_told 109 = .ok (.ireturn, 1) := k_172 zcX2_told rfl rfl
theorem dX2_told_110 : decode cX2_told 110 = .ok (.aload_n 0, 1) := k_42 zcX2_told rfl rfl
theorem dX2_told_111 : decode cX2_told 111 = .ok (.getfield 66, 3) := k_180 zcX2_told rfl rfl rfl
theorem dX2_told_114 : decode cX2_told 114 = .ok (.ireturn, 1) := k_172 zcX2_told rfl rfl
theorem dX2_told_115 : decode cX2_told 115 = .ok (.iconst (-1), 1) := k_2 zcX2_told rfl rfl
theorem dX2_told_116 : decode cX2_told 116 = .ok (.ireturn, 1) := k_172 zcX2_told rfl rfl
theorem dX3_init_0 : decode cX3_init 0 = .ok (.aload_n 0, 1) := k_42 zcX3_init rfl rfl
theorem dX3_init_1 : decode cX3_init 1 = .ok (.invokespecial 3, 3) := k_183 zcX3_init rfl rfl rfl
theorem dX3_init_4 : decode cX3_init 4 = .ok (.aload_n 0, 1) := k_42 zcX3_init rfl rfl
theorem dX3_init_5 : decode cX3_init 5 = .ok (.iconst (-1), 1) := k_2 zcX3_init rfl rfl
theorem dX3_init_6 : decode cX3_init 6 = .ok (.putfield 9, 3) := k_181 zcX3_init rfl rfl rfl
theorem dX3_init_9 : decode cX3_init 9 = .ok (.return_, 1) := k_177 zcX3_init rfl rfl
theorem dX3_begin_0 : decode cX3_begin 0 = .ok (.aload_n 0, 1) := k_42 zcX3_begin rfl rfl
theorem dX3_begin_1 : decode cX3_begin 1 = .ok (.iload_n 1, 1) := k_27 zcX3_begin rfl rfl
theorem dX3_begin_2 : decode cX3_begin 2 = .ok (.putfield 9, 3) := k_181 zcX3_begin rfl rfl rfl
theorem dX3_begin_5 : decode cX3_begin 5 = .ok (.aload_n 0, 1) := k_42 zcX3_begin rfl rfl
theorem dX3_begin_6 : decode cX3_begin 6 = .ok (.iload_n 2, 1) := k_28 zcX3_begin rfl rfl
theorem dX3_begin_7 : decode cX3_begin 7 = .ok (.putfield 15, 3) := k_181 zcX3_begin rfl rfl rfl
theorem dX3_begin_10 : decode cX3_begin 10 = .ok (.aload_n 0, 1) := k_42 zcX3_begin rfl rfl
theorem dX3_begin_11 : decode cX3_begin 11 = .ok (.iload_n 3, 1) := k_29 zcX3_begin rfl rfl
theorem dX3_begin_12 : decode cX3_begin 12 = .ok (.putfield 18, 3) := k_181 zcX3_begin rfl rfl rfl
theorem dX3_begin_15 : decode cX3_begin 15 = .ok (.aload_n 0, 1) := k_42 zcX3_begin rfl rfl
theorem dX3_begin_16 : decode cX3_begin 16 = .ok (.iconst 0, 1) := k_3 zcX3_begin rfl rfl
theorem dX3_begin_17 : decode cX3_begin 17 = .ok (.putfield 21, 3) := k_181 zcX3_begin rfl rfl rfl
theorem dX3_begin_20 : decode cX3_begin 20 = .ok (.return_, 1) := k_177 zcX3_begin rfl rfl
theorem dX3_end_0 : decode cX3_end 0 = .ok (.aload_n 0, 1) := k_42 zcX3_end rfl rfl
theorem dX3_end_1 : decode cX3_end 1 = .ok (.iconst (-1), 1) := k_2 zcX3_end rfl rfl
theorem dX3_end_2 : decode cX3_end 2 = .ok (.putfield 9, 3) := k_181 zcX3_end rfl rfl rfl
theorem dX3_end_5 : decode cX3_end 5 = .ok (.return_, 1) := k_177 zcX3_end rfl rfl
theorem dX3_told_0 : decode cX3_told 0 = .ok (.iload_n 1, 1) := k_27 zcX3_told rfl rfl
theorem dX3_told_1 : decode cX3_told 1 = .ok (.tableswitch 51 0 3 #[31, 36, 41, 46], 31) := by decide +kernel
theorem dX3_told_32 : decode cX3_told 32 = .ok (.aload_n 0, 1) := k_42 zcX3_told rfl rfl
theorem dX3_told_33 : decode cX3_told 33 = .ok (.getfield 9, 3) := k_180 zcX3_told rfl rfl rfl
theorem dX3_told_36 : decode cX3_told 36 = .ok (.ireturn, 1) := k_172 zcX3_told rfl rfl
theorem dX3_told_37 : decode cX3_told 37 = .ok (.aload_n 0, 1) := k_42 zcX3_told rfl rfl
theorem dX3_told_38 : decode cX3_told 38 = .ok (.getfield 15, 3) := k_180 zcX3_told rfl rfl rfl
theorem dX3_told_41 : decode cX3_told 41 = .ok (.ireturn, 1) := k_172 zcX3_told rfl rfl
theorem dX3_told_42 : decode cX3_told 42 = .ok (.aload_n 0, 1) := k_42 zcX3_told rfl rfl
theorem dX3_told_43 : decode cX3_told 43 = .ok (.getfield 18, 3) := k_180 zcX3_told rfl rfl rfl
theorem dX3_told_46 : decode cX3_told 46 = .ok (.ireturn, 1) := k_172 zcX3_told rfl rfl
theorem dX3_told_47 : decode cX3_told 47 = .ok (.aload_n 0, 1) := k_42 zcX3_told rfl rfl
theorem dX3_told_48 : decode cX3_told 48 = .ok (.getfield 21, 3) := k_180 zcX3_told rfl rfl rfl
theorem dX3_told_51 : decode cX3_told 51 = .ok (.ireturn, 1) := k_172 zcX3_told rfl rfl
theorem dX3_told_52 : decode cX3_told 52 = .ok (.iconst (-1), 1) := k_2 zcX3_told rfl rfl
theorem dX3_told_53 : decode cX3_told 53 = .ok (.ireturn, 1) := k_172 zcX3_told rfl rfl
theorem dX4_init_0 : decode cX4_init 0 = .ok (.aload_n 0, 1) := k_42 zcX4_init rfl rfl
theorem dX4_init_1 : decode cX4_init 1 = .ok (.invokespecial 3, 3) := k_183 zcX4_init rfl rfl rfl
theorem dX4_init_4 : decode cX4_init 4 = .ok (.aload_n 0, 1) := k_42 zcX4_init rfl rfl
theorem dX4_init_5 : decode cX4_init 5 = .ok (.iconst (-1), 1) := k_2 zcX4_init rfl rfl
theorem dX4_init_6 : decode cX4_init 6 = .ok (.putfield 9, 3) := k_181 zcX4_init rfl rfl rfl
theorem dX4_init_9 : decode cX4_init 9 = .ok (.return_, 1) := k_177 zcX4_init rfl rfl
theorem dX4_begin_0 : decode cX4_begin 0 = .ok (.aload_n 0, 1) := k_42 zcX4_begin rfl rfl
theorem dX4_begin_1 : decode cX4_begin 1 = .ok (.iload_n 1, 1) := k_27 zcX4_begin rfl rfl
theorem dX4_begin_2 : decode cX4_begin 2 = .ok (.putfield 9, 3) := k_181 zcX4_begin rfl rfl rfl
theorem dX4_begin_5 : decode cX4_begin 5 = .ok (.aload_n 0, 1) := k_42 zcX4_begin rfl rfl
theorem dX4_begin_6 : decode cX4_begin 6 = .ok (.iload_n 2, 1) := k_28 zcX4_begin rfl rfl
theorem dX4_begin_7 : decode cX4_begin 7 = .ok (.putfield 15, 3) := k_181 zcX4_begin rfl rfl rfl
theorem dX4_begin_10 : decode cX4_begin 10 = .ok (.aload_n 0, 1) := k_42 zcX4_begin rfl rfl
theorem dX4_begin_11 : decode cX4_begin 11 = .ok (.iload_n 3, 1) := k_29 zcX4_begin rfl rfl
theorem dX4_begin_12 : decode cX4_begin 12 = .ok (.putfield 18, 3) := k_181 zcX4_begin rfl rfl rfl
theorem dX4_begin_15 : decode cX4_begin 15 = .ok (.aload_n 0, 1) := k_42 zcX4_begin rfl rfl
theorem dX4_begin_16 : decode cX4_begin 16 = .ok (.iload 4, 2) := k_21 zcX4_begin rfl rfl rfl
theorem dX4_begin_18 : decode cX4_begin 18 = .ok (.putfield 21, 3) := k_181 zcX4_begin rfl rfl rfl
theorem dX4_begin_21 : decode cX4_begin 21 = .ok (.aload_n 0, 1) := k_42 zcX4_begin rfl rfl
theorem dX4_begin_22 : decode cX4_begin 22 = .ok (.iconst 0, 1) := k_3 zcX4_begin rfl rfl
theorem dX4_begin_23 : decode cX4_begin 23 = .ok (.putfield 25, 3) := k_181 zcX4_begin rfl rfl rfl
theorem dX4_begin_26 : decode cX4_begin 26 = .ok (.aload_n 0, 1) := k_42 zcX4_begin rfl rfl
theorem dX4_begin_27 : decode cX4_begin 27 = .ok (.iconst (-1), 1) := k_2 zcX4_begin rfl rfl
theorem dX4_begin_28 : decode cX4_begin 28 = .ok (.putfield 28, 3) := k_181 zcX4_begin rfl rfl rfl
theorem dX4_begin_31 : decode cX4_begin 31 = .ok (.return_, 1) := k_177 zcX4_begin rfl rfl
theorem dX4_note_0 : decode cX4_note 0 = .ok (.iload_n 1, 1) := k_27 zcX4_note rfl rfl
theorem dX4_note_1 : decode cX4_note 1 = .ok (.ifCond .eq 25, 3) := k_153 zcX4_note rfl rfl rfl
theorem dX4_note_4 : decode cX4_note 4 = .ok (.aload_n 0, 1) := k_42 zcX4_note rfl rfl
theorem dX4_note_5 : decode cX4_note 5 = .ok (.getfield 21, 3) := k_180 zcX4_note rfl rfl rfl
theorem dX4_note_8 : decode cX4_note 8 = .ok (.ifCond .ne 18, 3) := k_154 zcX4_note rfl rfl rfl
theorem dX4_note_11 : decode cX4_note 11 = .ok (.aload_n 0, 1) := k_42 zcX4_note rfl rfl
theorem dX4_note_12 : decode cX4_note 12 = .ok (.dup, 1) := k_89 zcX4_note rfl rfl
theorem dX4_note_13 : decode cX4_note 13 = .ok (.getfield 25, 3) := k_180 zcX4_note rfl rfl rfl
theorem dX4_note_16 : decode cX4_note 16 = .ok (.iconst 1, 1) := k_4 zcX4_note rfl rfl
theorem dX4_note_17 : decode cX4_note 17 = .ok (.iadd, 1) := k_96 zcX4_note rfl rfl
theorem dX4_note_18 : decode cX4_note 18 = .ok (.putfield 25, 3) := k_181 zcX4_note rfl rfl rfl
theorem dX4_note_21 : decode cX4_note 21 = .ok (.aload_n 0, 1) := k_42 zcX4_note rfl rfl
theorem dX4_note_22 : decode cX4_note 22 = .ok (.iload_n 2, 1) := k_28 zcX4_note rfl rfl
theorem dX4_note_23 : decode cX4_note 23 = .ok (.putfield 28, 3) := k_181 zcX4_note rfl rfl rfl
theorem dX4_note_26 : decode cX4_note 26 = .ok (.aload_n 0, 1) := k_42 zcX4_note rfl rfl
theorem dX4_note_27 : decode cX4_note 27 = .ok (.iload_n 1, 1) := k_27 zcX4_note rfl rfl
theorem dX4_note_28 : decode cX4_note 28 = .ok (.putfield 21, 3) := k_181 zcX4_note rfl rfl rfl
theorem dX4_note_31 : decode cX4_note 31 = .ok (.return_, 1) := k_177 zcX4_note rfl rfl
theorem dX4_end_0 : decode cX4_end 0 = .ok (.aload_n 0, 1) := k_42 zcX4_end rfl rfl
theorem dX4_end_1 : decode cX4_end 1 = .ok (.iconst (-1), 1) := k_2 zcX4_end rfl rfl
theorem dX4_end_2 : decode cX4_end 2 = .ok (.putfield 9, 3) := k_181 zcX4_end rfl rfl rfl
theorem dX4_end_5 : decode cX4_end 5 = .ok (.return_, 1) := k_177 zcX4_end rfl rfl
theorem dX5_init_0 : decode cX5_init 0 = .ok (.aload_n 0, 1) := k_42 zcX5_init rfl rfl
theorem dX5_init_1 : decode cX5_init 1 = .ok (.invokespecial 3, 3) := k_183 zcX5_init rfl rfl rfl
theorem dX5_init_4 : decode cX5_init 4 = .ok (.aload_n 0, 1) := k_42 zcX5_init rfl rfl
theorem dX5_init_5 : decode cX5_init 5 = .ok (.iconst 4, 1) := k_7 zcX5_init rfl rfl
theorem dX5_init_6 : decode cX5_init 6 = .ok (.anewarray 11, 3) := k_189 zcX5_init rfl rfl rfl
theorem dX5_init_9 : decode cX5_init 9 = .ok (.putfield 13, 3) := k_181 zcX5_init rfl rfl rfl
theorem dX5_init_12 : decode cX5_init 12 = .ok (.aload_n 0, 1) := k_42 zcX5_init rfl rfl
theorem dX5_init_13 : decode cX5_init 13 = .ok (.iconst 4, 1) := k_7 zcX5_init rfl rfl
theorem dX5_init_14 : decode cX5_init 14 = .ok (.anewarray 17, 3) := k_189 zcX5_init rfl rfl rfl
theorem dX5_init_17 : decode cX5_init 17 = .ok (.putfield 19, 3) := k_181 zcX5_init rfl rfl rfl
theorem dX5_init_20 : decode cX5_init 20 = .ok (.iconst 0, 1) := k_3 zcX5_init rfl rfl
theorem dX5_init_21 : decode cX5_init 21 = .ok (.istore_n 1, 1) := k_60 zcX5_init rfl rfl
theorem dX5_init_22 : decode cX5_init 22 = .ok (.iload_n 1, 1) := k_27 zcX5_init rfl rfl
theorem dX5_init_23 : decode cX5_init 23 = .ok (.iconst 4, 1) := k_7 zcX5_init rfl rfl
theorem dX5_init_24 : decode cX5_init 24 = .ok (.if_icmp .ge 36, 3) := k_162 zcX5_init rfl rfl rfl
theorem dX5_init_27 : decode cX5_init 27 = .ok (.aload_n 0, 1) := k_42 zcX5_init rfl rfl
theorem dX5_init_28 : decode cX5_init 28 = .ok (.getfield 13, 3) := k_180 zcX5_init rfl rfl rfl
theorem dX5_init_31 : decode cX5_init 31 = .ok (.iload_n 1, 1) := k_27 zcX5_init rfl rfl
theorem dX5_init_32 : decode cX5_init 32 = .ok (.new 11, 3) := k_187 zcX5_init rfl rfl rfl
theorem dX5_init_35 : decode cX5_init 35 = .ok (.dup, 1) := k_89 zcX5_init rfl rfl
theorem dX5_init_36 : decode cX5_init 36 = .ok (.iload_n 1, 1) := k_27 zcX5_init rfl rfl
theorem dX5_init_37 : decode cX5_init 37 = .ok (.invokespecial 23, 3) := k_183 zcX5_init rfl rfl rfl
theorem dX5_init_40 : decode cX5_init 40 = .ok (.aastore, 1) := k_83 zcX5_init rfl rfl
theorem dX5_init_41 : decode cX5_init 41 = .ok (.aload_n 0, 1) := k_42 zcX5_init rfl rfl
theorem dX5_init_42 : decode cX5_init 42 = .ok (.getfield 19, 3) := k_180 zcX5_init rfl rfl rfl
theorem dX5_init_45 : decode cX5_init 45 = .ok (.iload_n 1, 1) := k_27 zcX5_init rfl rfl
theorem dX5_init_46 : decode cX5_init 46 = .ok (.new 17, 3) := k_187 zcX5_init rfl rfl rfl
theorem dX5_init_49 : decode cX5_init 49 = .ok (.dup, 1) := k_89 zcX5_init rfl rfl
theorem dX5_init_50 : decode cX5_init 50 = .ok (.invokespecial 26, 3) := k_183 zcX5_init rfl rfl rfl
theorem dX5_init_53 : decode cX5_init 53 = .ok (.aastore, 1) := k_83 zcX5_init rfl rfl
theorem dX5_init_54 : decode cX5_init 54 = .ok (.iinc 1 1, 3) := k_132 zcX5_init rfl rfl rfl rfl
theorem dX5_init_57 : decode cX5_init 57 = .ok (.goto (-35), 3) := k_167 zcX5_init rfl rfl rfl
theorem dX5_init_60 : decode cX5_init 60 = .ok (.aload_n 0, 1) := k_42 zcX5_init rfl rfl
theorem dX5_init_61 : decode cX5_init 61 = .ok (.iconst 3, 1) := k_6 zcX5_init rfl rfl
theorem dX5_init_62 : decode cX5_init 62 = .ok (.anewarray 11, 3) := k_189 zcX5_init rfl rfl rfl
theorem dX5_init_65 : decode cX5_init 65 = .ok (.putfield 27, 3) := k_181 zcX5_init rfl rfl rfl
theorem dX5_init_68 : decode cX5_init 68 = .ok (.iconst 0, 1) := k_3 zcX5_init rfl rfl
theorem dX5_init_69 : decode cX5_init 69 = .ok (.istore_n 1, 1) := k_60 zcX5_init rfl rfl
theorem dX5_init_70 : decode cX5_init 70 = .ok (.iload_n 1, 1) := k_27 zcX5_init rfl rfl
theorem dX5_init_71 : decode cX5_init 71 = .ok (.iconst 3, 1) := k_6 zcX5_init rfl rfl
theorem dX5_init_72 : decode cX5_init 72 = .ok (.if_icmp .ge 23, 3) := k_162 zcX5_init rfl rfl rfl
theorem dX5_init_75 : decode cX5_init 75 = .ok (.aload_n 0, 1) := k_42 zcX5_init rfl rfl
theorem dX5_init_76 : decode cX5_init 76 = .ok (.getfield 27, 3) := k_180 zcX5_init rfl rfl rfl
theorem dX5_init_79 : decode cX5_init 79 = .ok (.iload_n 1, 1) := k_27 zcX5_init rfl rfl
theorem dX5_init_80 : decode cX5_init 80 = .ok (.new 11, 3) := k_187 zcX5_init rfl rfl rfl
theorem dX5_init_83 : decode cX5_init 83 = .ok (.dup, 1) := k_89 zcX5_init rfl rfl
theorem dX5_init_84 : decode cX5_init 84 = .ok (.iconst (-1), 1) := k_2 zcX5_init rfl rfl
theorem dX5_init_85 : decode cX5_init 85 = .ok (.invokespecial 23, 3) := k_183 zcX5_init rfl rfl rfl
theorem dX5_init_88 : decode cX5_init 88 = .ok (.aastore, 1) := k_83 zcX5_init rfl rfl
theorem dX5_init_89 : decode cX5_init 89 = .ok (.iinc 1 1, 3) := k_132 zcX5_init rfl rfl rfl rfl
theorem dX5_init_92 : decode cX5_init 92 = .ok (.goto (-22), 3) := k_167 zcX5_init rfl rfl rfl
theorem dX5_init_95 : decode cX5_init 95 = .ok (.aload_n 0, 1) := k_42 zcX5_init rfl rfl
theorem dX5_init_96 : decode cX5_init 96 = .ok (.bipush 8, 2) := k_16 zcX5_init rfl rfl rfl
theorem dX5_init_98 : decode cX5_init 98 = .ok (.anewarray 30, 3) := k_189 zcX5_init rfl rfl rfl
theorem dX5_init_101 : decode cX5_init 101 = .ok (.putfield 32, 3) := k_181 zcX5_init rfl rfl rfl
theorem dX5_init_104 : decode cX5_init 104 = .ok (.iconst 0, 1) := k_3 zcX5_init rfl rfl
theorem dX5_init_105 : decode cX5_init 105 = .ok (.istore_n 1, 1) := k_60 zcX5_init rfl rfl
theorem dX5_init_106 : decode cX5_init 106 = .ok (.iload_n 1, 1) := k_27 zcX5_init rfl rfl
theorem dX5_init_107 : decode cX5_init 107 = .ok (.bipush 8, 2) := k_16 zcX5_init rfl rfl rfl
theorem dX5_init_109 : decode cX5_init 109 = .ok (.if_icmp .ge 22, 3) := k_162 zcX5_init rfl rfl rfl
theorem dX5_init_112 : decode cX5_init 112 = .ok (.aload_n 0, 1) := k_42 zcX5_init rfl rfl
theorem dX5_init_113 : decode cX5_init 113 = .ok (.getfield 32, 3) := k_180 zcX5_init rfl rfl rfl
theorem dX5_init_116 : decode cX5_init 116 = .ok (.iload_n 1, 1) := k_27 zcX5_init rfl rfl
theorem dX5_init_117 : decode cX5_init 117 = .ok (.new 30, 3) := k_187 zcX5_init rfl rfl rfl
theorem dX5_init_120 : decode cX5_init 120 = .ok (.dup, 1) := k_89 zcX5_init rfl rfl
theorem dX5_init_121 : decode cX5_init 121 = .ok (.invokespecial 36, 3) := k_183 zcX5_init rfl rfl rfl
theorem dX5_init_124 : decode cX5_init 124 = .ok (.aastore, 1) := k_83 zcX5_init rfl rfl
theorem dX5_init_125 : decode cX5_init 125 = .ok (.iinc 1 1, 3) := k_132 zcX5_init rfl rfl rfl rfl
theorem dX5_init_128 : decode cX5_init 128 = .ok (.goto (-22), 3) := k_167 zcX5_init rfl rfl rfl
theorem dX5_init_131 : decode cX5_init 131 = .ok (.aload_n 0, 1) := k_42 zcX5_init rfl rfl
theorem dX5_init_132 : decode cX5_init 132 = .ok (.new 37, 3) := k_187 zcX5_init rfl rfl rfl
theorem dX5_init_135 : decode cX5_init 135 = .ok (.dup, 1) := k_89 zcX5_init rfl rfl
theorem dX5_init_136 : decode cX5_init 136 = .ok (.invokespecial 39, 3) := k_183 zcX5_init rfl rfl rfl
theorem dX5_init_139 : decode cX5_init 139 = .ok (.putfield 40, 3) := k_181 zcX5_init rfl rfl rfl
theorem dX5_init_142 : decode cX5_init 142 = .ok (.aload_n 0, 1) := k_42 zcX5_init rfl rfl
theorem dX5_init_143 : decode cX5_init 143 = .ok (.new 44, 3) := k_187 zcX5_init rfl rfl rfl
theorem dX5_init_146 : decode cX5_init 146 = .ok (.dup, 1) := k_89 zcX5_init rfl rfl
theorem dX5_init_147 : decode cX5_init 147 = .ok (.invokespecial 46, 3) := k_183 zcX5_init rfl rfl rfl
theorem dX5_init_150 : decode cX5_init 150 = .ok (.putfield 47, 3) := k_181 zcX5_init rfl rfl rfl
theorem dX5_init_153 : decode cX5_init 153 = .ok (.aload_n 0, 1) := k_42 zcX5_init rfl rfl
theorem dX5_init_154 : decode cX5_init 154 = .ok (.iconst 5, 1) := k_8 zcX5_init rfl rfl
theorem dX5_init_155 : decode cX5_init 155 = .ok (.bipush 121, 2) := k_16 zcX5_init rfl rfl rfl
theorem dX5_init_157 : decode cX5_init 157 = .ok (.multianewarray 51 2, 4) := by decide +kernel
theorem dX5_init_161 : decode cX5_init 161 = .ok (.putfield 53, 3) := k_181 zcX5_init rfl rfl rfl
theorem dX5_init_164 : decode cX5_init 164 = .ok (.aload_n 0, 1) := k_42 zcX5_init rfl rfl
theorem dX5_init_165 : decode cX5_init 165 = .ok (.iconst 5, 1) := k_8 zcX5_init rfl rfl
theorem dX5_init_166 : decode cX5_init 166 = .ok (.bipush 121, 2) := k_16 zcX5_init rfl rfl rfl
theorem dX5_init_168 : decode cX5_init 168 = .ok (.multianewarray 51 2, 4) := by decide +kernel
theorem dX5_init_172 : decode cX5_init 172 = .ok (.putfield 56, 3) := k_181 zcX5_init rfl rfl rfl
theorem dX5_init_175 : decode cX5_init 175 = .ok (.return_, 1) := k_177 zcX5_init rfl rfl
theorem dX5_table_0 : decode cX5_table 0 = .ok (.iload_n 1, 1) := k_27 zcX5_table rfl rfl
theorem dX5_table_1 : decode cX5_table 1 = .ok (.iconst 0, 1) := k_3 zcX5_table rfl rfl
theorem dX5_table_2 : decode cX5_table 2 = .ok (.bipush 15, 2) := k_16 zcX5_table rfl rfl rfl
theorem dX5_table_4 : decode cX5_table 4 = .ok (.invokestatic 59, 3) := k_184 zcX5_table rfl rfl rfl
theorem dX5_table_7 : decode cX5_table 7 = .ok (.ifCond .eq 21, 3) := k_153 zcX5_table rfl rfl rfl
theorem dX5_table_10 : decode cX5_table 10 = .ok (.iload_n 2, 1) := k_28 zcX5_table rfl rfl
theorem dX5_table_11 : decode cX5_table 11 = .ok (.iconst 0, 1) := k_3 zcX5_table rfl rfl
theorem dX5_table_12 : decode cX5_table 12 = .ok (.iconst 3, 1) := k_6 zcX5_table rfl rfl
theorem dX5_table_13 : decode cX5_table 13 = .ok (.invokestatic 59, 3) := k_184 zcX5_table rfl rfl rfl
theorem dX5_table_16 : decode cX5_table 16 = .ok (.ifCond .eq 12, 3) := k_153 zcX5_table rfl rfl rfl
theorem dX5_table_19 : decode cX5_table 19 = .ok (.aload_n 0, 1) := k_42 zcX5_table rfl rfl
theorem dX5_table_20 : decode cX5_table 20 = .ok (.bipush 9, 2) := k_16 zcX5_table rfl rfl rfl
theorem dX5_table_22 : decode cX5_table 22 = .ok (.invokevirtual 63, 3) := k_182 zcX5_table rfl rfl rfl
theorem dX5_table_25 : decode cX5_table 25 = .ok (.ifCond .eq 5, 3) := k_153 zcX5_table rfl rfl rfl
theorem dX5_table_28 : decode cX5_table 28 = .ok (.iconst 0, 1) := k_3 zcX5_table rfl rfl
theorem dX5_table_29 : decode cX5_table 29 = .ok (.ireturn, 1) := k_172 zcX5_table rfl rfl
theorem dX5_table_30 : decode cX5_table 30 = .ok (.aload_n 0, 1) := k_42 zcX5_table rfl rfl
theorem dX5_table_31 : decode cX5_table 31 = .ok (.getfield 40, 3) := k_180 zcX5_table rfl rfl rfl
theorem dX5_table_34 : decode cX5_table 34 = .ok (.getfield 67, 3) := k_180 zcX5_table rfl rfl rfl
theorem dX5_table_37 : decode cX5_table 37 = .ok (.iload_n 1, 1) := k_27 zcX5_table rfl rfl
theorem dX5_table_38 : decode cX5_table 38 = .ok (.iload_n 2, 1) := k_28 zcX5_table rfl rfl
theorem dX5_table_39 : decode cX5_table 39 = .ok (.iastore, 1) := k_79 zcX5_table rfl rfl
theorem dX5_table_40 : decode cX5_table 40 = .ok (.iconst 1, 1) := k_4 zcX5_table rfl rfl
theorem dX5_table_41 : decode cX5_table 41 = .ok (.ireturn, 1) := k_172 zcX5_table rfl rfl
theorem dX5_letter_0 : decode cX5_letter 0 = .ok (.iload_n 1, 1) := k_27 zcX5_letter rfl rfl
theorem dX5_letter_1 : decode cX5_letter 1 = .ok (.iconst 0, 1) := k_3 zcX5_letter rfl rfl
theorem dX5_letter_2 : decode cX5_letter 2 = .ok (.bipush 7, 2) := k_16 zcX5_letter rfl rfl rfl
theorem dX5_letter_4 : decode cX5_letter 4 = .ok (.invokestatic 59, 3) := k_184 zcX5_letter rfl rfl rfl
theorem dX5_letter_7 : decode cX5_letter 7 = .ok (.ifCond .eq 22, 3) := k_153 zcX5_letter rfl rfl rfl
theorem dX5_letter_10 : decode cX5_letter 10 = .ok (.iload_n 2, 1) := k_28 zcX5_letter rfl rfl
theorem dX5_letter_11 : decode cX5_letter 11 = .ok (.iconst 0, 1) := k_3 zcX5_letter rfl rfl
theorem dX5_letter_12 : decode cX5_letter 12 = .ok (.sipush 255, 3) := k_17 zcX5_letter rfl rfl rfl
theorem dX5_letter_15 : decode cX5_letter 15 = .ok (.invokestatic 59, 3) := k_184 zcX5_letter rfl rfl rfl
theorem dX5_letter_18 : decode cX5_letter 18 = .ok (.ifCond .eq 11, 3) := k_153 zcX5_letter rfl rfl rfl
theorem dX5_letter_21 : decode cX5_letter 21 = .ok (.aload_n 0, 1) := k_42 zcX5_letter rfl rfl
theorem dX5_letter_22 : decode cX5_letter 22 = .ok (.iconst 4, 1) := k_7 zcX5_letter rfl rfl
theorem dX5_letter_23 : decode cX5_letter 23 = .ok (.invokevirtual 63, 3) := k_182 zcX5_letter rfl rfl rfl
theorem dX5_letter_26 : decode cX5_letter 26 = .ok (.ifCond .eq 5, 3) := k_153 zcX5_letter rfl rfl rfl
theorem dX5_letter_29 : decode cX5_letter 29 = .ok (.iconst 0, 1) := k_3 zcX5_letter rfl rfl
theorem dX5_letter_30 : decode cX5_letter 30 = .ok (.ireturn, 1) := k_172 zcX5_letter rfl rfl
theorem dX5_letter_31 : decode cX5_letter 31 = .ok (.aload_n 0, 1) := k_42 zcX5_letter rfl rfl
theorem dX5_letter_32 : decode cX5_letter 32 = .ok (.getfield 40, 3) := k_180 zcX5_letter rfl rfl rfl
theorem dX5_letter_35 : decode cX5_letter 35 = .ok (.getfield 71, 3) := k_180 zcX5_letter rfl rfl rfl
theorem dX5_letter_38 : decode cX5_letter 38 = .ok (.iload_n 1, 1) := k_27 zcX5_letter rfl rfl
theorem dX5_letter_39 : decode cX5_letter 39 = .ok (.iload_n 2, 1) := k_28 zcX5_letter rfl rfl
theorem dX5_letter_40 : decode cX5_letter 40 = .ok (.iastore, 1) := k_79 zcX5_letter rfl rfl
theorem dX5_letter_41 : decode cX5_letter 41 = .ok (.iconst 1, 1) := k_4 zcX5_letter rfl rfl
theorem dX5_letter_42 : decode cX5_letter 42 = .ok (.ireturn, 1) := k_172 zcX5_letter rfl rfl
theorem dX5_triple_0 : decode cX5_triple 0 = .ok (.iload_n 1, 1) := k_27 zcX5_triple rfl rfl
theorem dX5_triple_1 : decode cX5_triple 1 = .ok (.iconst 0, 1) := k_3 zcX5_triple rfl rfl
theorem dX5_triple_2 : decode cX5_triple 2 = .ok (.iconst 3, 1) := k_6 zcX5_triple rfl rfl
theorem dX5_triple_3 : decode cX5_triple 3 = .ok (.invokestatic 59, 3) := k_184 zcX5_triple rfl rfl rfl
theorem dX5_triple_6 : decode cX5_triple 6 = .ok (.ifCond .ne 5, 3) := k_154 zcX5_triple rfl rfl rfl
theorem dX5_triple_9 : decode cX5_triple 9 = .ok (.iconst (-1), 1) := k_2 zcX5_triple rfl rfl
theorem dX5_triple_10 : decode cX5_triple 10 = .ok (.ireturn, 1) := k_172 zcX5_triple rfl rfl
theorem dX5_triple_11 : decode cX5_triple 11 = .ok (.iconst (-1), 1) := k_2 zcX5_triple rfl rfl
theorem dX5_triple_12 : decode cX5_triple 12 = .ok (.istore_n 2, 1) := k_61 zcX5_triple rfl rfl
theorem dX5_triple_13 : decode cX5_triple 13 = .ok (.iconst 0, 1) := k_3 zcX5_triple rfl rfl
theorem dX5_triple_14 : decode cX5_triple 14 = .ok (.istore_n 3, 1) := k_62 zcX5_triple rfl rfl
theorem dX5_triple_15 : decode cX5_triple 15 = .ok (.iconst 0, 1) := k_3 zcX5_triple rfl rfl
theorem dX5_triple_16 : decode cX5_triple 16 = .ok (.istore 4, 2) := k_54 zcX5_triple rfl rfl rfl
theorem dX5_triple_18 : decode cX5_triple 18 = .ok (.iload 4, 2) := k_21 zcX5_triple rfl rfl rfl
theorem dX5_triple_20 : decode cX5_triple 20 = .ok (.bipush 64, 2) := k_16 zcX5_triple rfl rfl rfl
theorem dX5_triple_22 : decode cX5_triple 22 = .ok (.if_icmp .ge 45, 3) := k_162 zcX5_triple rfl rfl rfl
theorem dX5_triple_25 : decode cX5_triple 25 = .ok (.aload_n 0, 1) := k_42 zcX5_triple rfl rfl
theorem dX5_triple_26 : decode cX5_triple 26 = .ok (.iload 4, 2) := k_21 zcX5_triple rfl rfl rfl
theorem dX5_triple_28 : decode cX5_triple 28 = .ok (.bipush 16, 2) := k_16 zcX5_triple rfl rfl rfl
theorem dX5_triple_30 : decode cX5_triple 30 = .ok (.idiv, 1) := k_108 zcX5_triple rfl rfl
theorem dX5_triple_31 : decode cX5_triple 31 = .ok (.iload 4, 2) := k_21 zcX5_triple rfl rfl rfl
theorem dX5_triple_33 : decode cX5_triple 33 = .ok (.iconst 4, 1) := k_7 zcX5_triple rfl rfl
theorem dX5_triple_34 : decode cX5_triple 34 = .ok (.idiv, 1) := k_108 zcX5_triple rfl rfl
theorem dX5_triple_35 : decode cX5_triple 35 = .ok (.iconst 4, 1) := k_7 zcX5_triple rfl rfl
theorem dX5_triple_36 : decode cX5_triple 36 = .ok (.irem, 1) := k_112 zcX5_triple rfl rfl
theorem dX5_triple_37 : decode cX5_triple 37 = .ok (.iload 4, 2) := k_21 zcX5_triple rfl rfl rfl
theorem dX5_triple_39 : decode cX5_triple 39 = .ok (.iconst 4, 1) := k_7 zcX5_triple rfl rfl
theorem dX5_triple_40 : decode cX5_triple 40 = .ok (.irem, 1) := k_112 zcX5_triple rfl rfl
theorem dX5_triple_41 : decode cX5_triple 41 = .ok (.invokevirtual 74, 3) := k_182 zcX5_triple rfl rfl rfl
theorem dX5_triple_44 : decode cX5_triple 44 = .ok (.ifCond .eq 9, 3) := k_153 zcX5_triple rfl rfl rfl
theorem dX5_triple_47 : decode cX5_triple 47 = .ok (.iinc 3 1, 3) := k_132 zcX5_triple rfl rfl rfl rfl
theorem dX5_triple_50 : decode cX5_triple 50 = .ok (.goto 11, 3) := k_167 zcX5_triple rfl rfl rfl
theorem dX5_triple_53 : decode cX5_triple 53 = .ok (.iload_n 2, 1) := k_28 zcX5_triple rfl rfl
theorem dX5_triple_54 : decode cX5_triple 54 = .ok (.iconst (-1), 1) := k_2 zcX5_triple rfl rfl
theorem dX5_triple_55 : decode cX5_triple 55 = .ok (.if_icmp .ne 6, 3) := k_160 zcX5_triple rfl rfl rfl
theorem dX5_triple_58 : decode cX5_triple 58 = .ok (.iload 4, 2) := k_21 zcX5_triple rfl rfl rfl
theorem dX5_triple_60 : decode cX5_triple 60 = .ok (.istore_n 2, 1) := k_61 zcX5_triple rfl rfl
theorem dX5_triple_61 : decode cX5_triple 61 = .ok (.iinc 4 1, 3) := k_132 zcX5_triple rfl rfl rfl rfl
theorem dX5_triple_64 : decode cX5_triple 64 = .ok (.goto (-46), 3) := k_167 zcX5_triple rfl rfl rfl
theorem dX5_triple_67 : decode cX5_triple 67 = .ok (.iload_n 1, 1) := k_27 zcX5_triple rfl rfl
theorem dX5_triple_68 : decode cX5_triple 68 = .ok (.iconst 3, 1) := k_6 zcX5_triple rfl rfl
theorem dX5_triple_69 : decode cX5_triple 69 = .ok (.if_icmp .ne 5, 3) := k_160 zcX5_triple rfl rfl rfl
theorem dX5_triple_72 : decode cX5_triple 72 = .ok (.iload_n 3, 1) := k_29 zcX5_triple rfl rfl
theorem dX5_triple_73 : decode cX5_triple 73 = .ok (.ireturn, 1) := k_172 zcX5_triple rfl rfl
theorem dX5_triple_74 : decode cX5_triple 74 = .ok (.iload_n 2, 1) := k_28 zcX5_triple rfl rfl
theorem dX5_triple_75 : decode cX5_triple 75 = .ok (.iconst (-1), 1) := k_2 zcX5_triple rfl rfl
theorem dX5_triple_76 : decode cX5_triple 76 = .ok (.if_icmp .ne 5, 3) := k_160 zcX5_triple rfl rfl rfl
theorem dX5_triple_79 : decode cX5_triple 79 = .ok (.iconst (-1), 1) := k_2 zcX5_triple rfl rfl
theorem dX5_triple_80 : decode cX5_triple 80 = .ok (.ireturn, 1) := k_172 zcX5_triple rfl rfl
theorem dX5_triple_81 : decode cX5_triple 81 = .ok (.iload_n 1, 1) := k_27 zcX5_triple rfl rfl
theorem dX5_triple_82 : decode cX5_triple 82 = .ok (.ifCond .ne 10, 3) := k_154 zcX5_triple rfl rfl rfl
theorem dX5_triple_85 : decode cX5_triple 85 = .ok (.iload_n 2, 1) := k_28 zcX5_triple rfl rfl
theorem dX5_triple_86 : decode cX5_triple 86 = .ok (.bipush 16, 2) := k_16 zcX5_triple rfl rfl rfl
theorem dX5_triple_88 : decode cX5_triple 88 = .ok (.idiv, 1) := k_108 zcX5_triple rfl rfl
theorem dX5_triple_89 : decode cX5_triple 89 = .ok (.goto 19, 3) := k_167 zcX5_triple rfl rfl rfl
theorem dX5_triple_92 : decode cX5_triple 92 = .ok (.iload_n 1, 1) := k_27 zcX5_triple rfl rfl
theorem dX5_triple_93 : decode cX5_triple 93 = .ok (.iconst 1, 1) := k_4 zcX5_triple rfl rfl
theorem dX5_triple_94 : decode cX5_triple 94 = .ok (.if_icmp .ne 11, 3) := k_160 zcX5_triple rfl rfl rfl
theorem dX5_triple_97 : decode cX5_triple 97 = .ok (.iload_n 2, 1) := k_28 zcX5_triple rfl rfl
theorem dX5_triple_98 : decode cX5_triple 98 = .ok (.iconst 4, 1) := k_7 zcX5_triple rfl rfl
theorem dX5_triple_99 : decode cX5_triple 99 = .ok (.idiv, 1) := k_108 zcX5_triple rfl rfl
theorem dX5_triple_100 : decode cX5_triple 100 = .ok (.iconst 4, 1) := k_7 zcX5_triple rfl rfl
theorem dX5_triple_101 : decode cX5_triple 101 = .ok (.irem, 1) := k_112 zcX5_triple rfl rfl
theorem dX5_triple_102 : decode cX5_triple 102 = .ok (.goto 6, 3) := k_167 zcX5_triple rfl rfl rfl
theorem dX5_triple_105 : decode cX5_triple 105 = .ok (.iload_n 2, 1) := k_28 zcX5_triple rfl rfl
theorem dX5_triple_106 : decode cX5_triple 106 = .ok (.iconst 4, 1) := k_7 zcX5_triple rfl rfl
theorem dX5_triple_107 : decode cX5_triple 107 = .ok (.irem, 1) := k_112 zcX5_triple rfl rfl
theorem dX5_triple_108 : decode cX5_triple 108 = .ok (.ireturn, 1) := k_172 zcX5_triple rfl rfl
theorem dX5_element_0 : decode cX5_element 0 = .ok (.iload_n 1, 1) := k_27 zcX5_element rfl rfl
theorem dX5_element_1 : decode cX5_element 1 = .ok (.tableswitch 51 0 3 #[31, 36, 41, 46], 31) := by decide +kernel
theorem dX5_element_32 : decode cX5_element 32 = .ok (.aload_n 0, 1) := k_42 zcX5_element rfl rfl
theorem dX5_element_33 : decode cX5_element 33 = .ok (.invokevirtual 77, 3) := k_182 zcX5_element rfl rfl rfl
theorem dX5_element_36 : decode cX5_element 36 = .ok (.ireturn, 1) := k_172 zcX5_element rfl rfl
theorem dX5_element_37 : decode cX5_element 37 = .ok (.aload_n 0, 1) := k_42 zcX5_element rfl rfl
theorem dX5_element_38 : decode cX5_element 38 = .ok (.invokevirtual 81, 3) := k_182 zcX5_element rfl rfl rfl
theorem dX5_element_41 : decode cX5_element 41 = .ok (.ireturn, 1) := k_172 zcX5_element rfl rfl
theorem dX5_element_42 : decode cX5_element 42 = .ok (.aload_n 0, 1) := k_42 zcX5_element rfl rfl
theorem dX5_element_43 : decode cX5_element 43 = .ok (.invokevirtual 84, 3) := k_182 zcX5_element rfl rfl rfl
theorem dX5_element_46 : decode cX5_element 46 = .ok (.ireturn, 1) := k_172 zcX5_element rfl rfl
theorem dX5_element_47 : decode cX5_element 47 = .ok (.aload_n 0, 1) := k_42 zcX5_element rfl rfl
theorem dX5_element_48 : decode cX5_element 48 = .ok (.invokevirtual 87, 3) := k_182 zcX5_element rfl rfl rfl
theorem dX5_element_51 : decode cX5_element 51 = .ok (.ireturn, 1) := k_172 zcX5_element rfl rfl
theorem dX5_element_52 : decode cX5_element 52 = .ok (.iconst (-1), 1) := k_2 zcX5_element rfl rfl
theorem dX5_element_53 : decode cX5_element 53 = .ok (.ireturn, 1) := k_172 zcX5_element rfl rfl
theorem dX5_product_0 : decode cX5_product 0 = .ok (.aload_n 0, 1) := k_42 zcX5_product rfl rfl
theorem dX5_product_1 : decode cX5_product 1 = .ok (.getfield 40, 3) := k_180 zcX5_product rfl rfl rfl
theorem dX5_product_4 : decode cX5_product 4 = .ok (.getfield 67, 3) := k_180 zcX5_product rfl rfl rfl
theorem dX5_product_7 : decode cX5_product 7 = .ok (.iconst 4, 1) := k_7 zcX5_product rfl rfl
theorem dX5_product_8 : decode cX5_product 8 = .ok (.iload_n 1, 1) := k_27 zcX5_product rfl rfl
theorem dX5_product_9 : decode cX5_product 9 = .ok (.imul, 1) := k_104 zcX5_product rfl rfl
theorem dX5_product_10 : decode cX5_product 10 = .ok (.iload_n 2, 1) := k_28 zcX5_product rfl rfl
theorem dX5_product_11 : decode cX5_product 11 = .ok (.iadd, 1) := k_96 zcX5_product rfl rfl
theorem dX5_product_12 : decode cX5_product 12 = .ok (.iaload, 1) := k_46 zcX5_product rfl rfl
theorem dX5_product_13 : decode cX5_product 13 = .ok (.ireturn, 1) := k_172 zcX5_product rfl rfl
theorem dX5_associates_0 : decode cX5_associates 0 = .ok (.aload_n 0, 1) := k_42 zcX5_associates rfl rfl
theorem dX5_associates_1 : decode cX5_associates 1 = .ok (.aload_n 0, 1) := k_42 zcX5_associates rfl rfl
theorem dX5_associates_2 : decode cX5_associates 2 = .ok (.iload_n 1, 1) := k_27 zcX5_associates rfl rfl
theorem dX5_associates_3 : decode cX5_associates 3 = .ok (.iload_n 2, 1) := k_28 zcX5_associates rfl rfl
theorem dX5_associates_4 : decode cX5_associates 4 = .ok (.invokevirtual 90, 3) := k_182 zcX5_associates rfl rfl rfl
theorem dX5_associates_7 : decode cX5_associates 7 = .ok (.iload_n 3, 1) := k_29 zcX5_associates rfl rfl
theorem dX5_associates_8 : decode cX5_associates 8 = .ok (.invokevirtual 90, 3) := k_182 zcX5_associates rfl rfl rfl
theorem dX5_associates_11 : decode cX5_associates 11 = .ok (.aload_n 0, 1) := k_42 zcX5_associates rfl rfl
theorem dX5_associates_12 : decode cX5_associates 12 = .ok (.iload_n 1, 1) := k_27 zcX5_associates rfl rfl
theorem dX5_associates_13 : decode cX5_associates 13 = .ok (.aload_n 0, 1) := k_42 zcX5_associates rfl rfl
theorem dX5_associates_14 : decode cX5_associates 14 = .ok (.iload_n 2, 1) := k_28 zcX5_associates rfl rfl
theorem dX5_associates_15 : decode cX5_associates 15 = .ok (.iload_n 3, 1) := k_29 zcX5_associates rfl rfl
theorem dX5_associates_16 : decode cX5_associates 16 = .ok (.invokevirtual 90, 3) := k_182 zcX5_associates rfl rfl rfl
theorem dX5_associates_19 : decode cX5_associates 19 = .ok (.invokevirtual 90, 3) := k_182 zcX5_associates rfl rfl rfl
theorem dX5_associates_22 : decode cX5_associates 22 = .ok (.if_icmp .ne 7, 3) := k_160 zcX5_associates rfl rfl rfl
theorem dX5_associates_25 : decode cX5_associates 25 = .ok (.iconst 1, 1) := k_4 zcX5_associates rfl rfl
theorem dX5_associates_26 : decode cX5_associates 26 = .ok (.goto 4, 3) := k_167 zcX5_associates rfl rfl rfl
theorem dX5_associates_29 : decode cX5_associates 29 = .ok (.iconst 0, 1) := k_3 zcX5_associates rfl rfl
theorem dX5_associates_30 : decode cX5_associates 30 = .ok (.ireturn, 1) := k_172 zcX5_associates rfl rfl
theorem dX5_firstNeutral_0 : decode cX5_firstNeutral 0 = .ok (.iconst 0, 1) := k_3 zcX5_firstNeutral rfl rfl
theorem dX5_firstNeutral_1 : decode cX5_firstNeutral 1 = .ok (.istore_n 1, 1) := k_60 zcX5_firstNeutral rfl rfl
theorem dX5_firstNeutral_2 : decode cX5_firstNeutral 2 = .ok (.iload_n 1, 1) := k_27 zcX5_firstNeutral rfl rfl
theorem dX5_firstNeutral_3 : decode cX5_firstNeutral 3 = .ok (.iconst 4, 1) := k_7 zcX5_firstNeutral rfl rfl
theorem dX5_firstNeutral_4 : decode cX5_firstNeutral 4 = .ok (.if_icmp .ge 59, 3) := k_162 zcX5_firstNeutral rfl rfl rfl
theorem dX5_firstNeutral_7 : decode cX5_firstNeutral 7 = .ok (.iconst 0, 1) := k_3 zcX5_firstNeutral rfl rfl
theorem dX5_firstNeutral_8 : decode cX5_firstNeutral 8 = .ok (.istore_n 2, 1) := k_61 zcX5_firstNeutral rfl rfl
theorem dX5_firstNeutral_9 : decode cX5_firstNeutral 9 = .ok (.iconst 0, 1) := k_3 zcX5_firstNeutral rfl rfl
theorem dX5_firstNeutral_10 : decode cX5_firstNeutral 10 = .ok (.istore_n 3, 1) := k_62 zcX5_firstNeutral rfl rfl
theorem dX5_firstNeutral_11 : decode cX5_firstNeutral 11 = .ok (.iload_n 3, 1) := k_29 zcX5_firstNeutral rfl rfl
theorem dX5_firstNeutral_12 : decode cX5_firstNeutral 12 = .ok (.iconst 4, 1) := k_7 zcX5_firstNeutral rfl rfl
theorem dX5_firstNeutral_13 : decode cX5_firstNeutral 13 = .ok (.if_icmp .ge 37, 3) := k_162 zcX5_firstNeutral rfl rfl rfl
theorem dX5_firstNeutral_16 : decode cX5_firstNeutral 16 = .ok (.iload_n 2, 1) := k_28 zcX5_firstNeutral rfl rfl
theorem dX5_firstNeutral_17 : decode cX5_firstNeutral 17 = .ok (.aload_n 0, 1) := k_42 zcX5_firstNeutral rfl rfl
theorem dX5_firstNeutral_18 : decode cX5_firstNeutral 18 = .ok (.iload_n 1, 1) := k_27 zcX5_firstNeutral rfl rfl
theorem dX5_firstNeutral_19 : decode cX5_firstNeutral 19 = .ok (.iload_n 3, 1) := k_29 zcX5_firstNeutral rfl rfl
theorem dX5_firstNeutral_20 : decode cX5_firstNeutral 20 = .ok (.invokevirtual 90, 3) := k_182 zcX5_firstNeutral rfl rfl rfl
theorem dX5_firstNeutral_23 : decode cX5_firstNeutral 23 = .ok (.iload_n 3, 1) := k_29 zcX5_firstNeutral rfl rfl
theorem dX5_firstNeutral_24 : decode cX5_firstNeutral 24 = .ok (.if_icmp .ne 17, 3) := k_160 zcX5_firstNeutral rfl rfl rfl
theorem dX5_firstNeutral_27 : decode cX5_firstNeutral 27 = .ok (.aload_n 0, 1) := k_42 zcX5_firstNeutral rfl rfl
theorem dX5_firstNeutral_28 : decode cX5_firstNeutral 28 = .ok (.iload_n 3, 1) := k_29 zcX5_firstNeutral rfl rfl
theorem dX5_firstNeutral_29 : decode cX5_firstNeutral 29 = .ok (.iload_n 1, 1) := k_27 zcX5_firstNeutral rfl rfl
theorem dX5_firstNeutral_30 : decode cX5_firstNeutral 30 = .ok (.invokevirtual 90, 3) := k_182 zcX5_firstNeutral rfl rfl rfl
theorem dX5_firstNeutral_33 : decode cX5_firstNeutral 33 = .ok (.iload_n 3, 1) := k_29 zcX5_firstNeutral rfl rfl
theorem dX5_firstNeutral_34 : decode cX5_firstNeutral 34 = .ok (.if_icmp .ne 7, 3) := k_160 zcX5_firstNeutral rfl rfl rfl
theorem dX5_firstNeutral_37 : decode cX5_firstNeutral 37 = .ok (.iconst 1, 1) := k_4 zcX5_firstNeutral rfl rfl
theorem dX5_firstNeutral_38 : decode cX5_firstNeutral 38 = .ok (.goto 4, 3) := k_167 zcX5_firstNeutral rfl rfl rfl
theorem dX5_firstNeutral_41 : decode cX5_firstNeutral 41 = .ok (.iconst 0, 1) := k_3 zcX5_firstNeutral rfl rfl
theorem dX5_firstNeutral_42 : decode cX5_firstNeutral 42 = .ok (.iadd, 1) := k_96 zcX5_firstNeutral rfl rfl
theorem dX5_firstNeutral_43 : decode cX5_firstNeutral 43 = .ok (.istore_n 2, 1) := k_61 zcX5_firstNeutral rfl rfl
theorem dX5_firstNeutral_44 : decode cX5_firstNeutral 44 = .ok (.iinc 3 1, 3) := k_132 zcX5_firstNeutral rfl rfl rfl rfl
theorem dX5_firstNeutral_47 : decode cX5_firstNeutral 47 = .ok (.goto (-36), 3) := k_167 zcX5_firstNeutral rfl rfl rfl
theorem dX5_firstNeutral_50 : decode cX5_firstNeutral 50 = .ok (.iload_n 2, 1) := k_28 zcX5_firstNeutral rfl rfl
theorem dX5_firstNeutral_51 : decode cX5_firstNeutral 51 = .ok (.iconst 4, 1) := k_7 zcX5_firstNeutral rfl rfl
theorem dX5_firstNeutral_52 : decode cX5_firstNeutral 52 = .ok (.if_icmp .ne 5, 3) := k_160 zcX5_firstNeutral rfl rfl rfl
theorem dX5_firstNeutral_55 : decode cX5_firstNeutral 55 = .ok (.iload_n 1, 1) := k_27 zcX5_firstNeutral rfl rfl
theorem dX5_firstNeutral_56 : decode cX5_firstNeutral 56 = .ok (.ireturn, 1) := k_172 zcX5_firstNeutral rfl rfl
theorem dX5_firstNeutral_57 : decode cX5_firstNeutral 57 = .ok (.iinc 1 1, 3) := k_132 zcX5_firstNeutral rfl rfl rfl rfl
theorem dX5_firstNeutral_60 : decode cX5_firstNeutral 60 = .ok (.goto (-58), 3) := k_167 zcX5_firstNeutral rfl rfl rfl
theorem dX5_firstNeutral_63 : decode cX5_firstNeutral 63 = .ok (.iconst (-1), 1) := k_2 zcX5_firstNeutral rfl rfl
theorem dX5_firstNeutral_64 : decode cX5_firstNeutral 64 = .ok (.ireturn, 1) := k_172 zcX5_firstNeutral rfl rfl
theorem dX5_firstAbsorbing_0 : decode cX5_firstAbsorbing 0 = .ok (.iconst 0, 1) := k_3 zcX5_firstAbsorbing rfl rfl
theorem dX5_firstAbsorbing_1 : decode cX5_firstAbsorbing 1 = .ok (.istore_n 1, 1) := k_60 zcX5_firstAbsorbing rfl rfl
theorem dX5_firstAbsorbing_2 : decode cX5_firstAbsorbing 2 = .ok (.iload_n 1, 1) := k_27 zcX5_firstAbsorbing rfl rfl
theorem dX5_firstAbsorbing_3 : decode cX5_firstAbsorbing 3 = .ok (.iconst 4, 1) := k_7 zcX5_firstAbsorbing rfl rfl
theorem dX5_firstAbsorbing_4 : decode cX5_firstAbsorbing 4 = .ok (.if_icmp .ge 59, 3) := k_162 zcX5_firstAbsorbing rfl rfl rfl
theorem dX5_firstAbsorbing_7 : decode cX5_firstAbsorbing 7 = .ok (.iconst 0, 1) := k_3 zcX5_firstAbsorbing rfl rfl
theorem dX5_firstAbsorbing_8 : decode cX5_firstAbsorbing 8 = .ok (.istore_n 2, 1) := k_61 zcX5_firstAbsorbing rfl rfl
theorem dX5_firstAbsorbing_9 : decode cX5_firstAbsorbing 9 = .ok (.iconst 0, 1) := k_3 zcX5_firstAbsorbing rfl rfl
theorem dX5_firstAbsorbing_10 : decode cX5_firstAbsorbing 10 = .ok (.istore_n 3, 1) := k_62 zcX5_firstAbsorbing rfl rfl
theorem dX5_firstAbsorbing_11 : decode cX5_firstAbsorbing 11 = .ok (.iload_n 3, 1) := k_29 zcX5_firstAbsorbing rfl rfl
theorem dX5_firstAbsorbing_12 : decode cX5_firstAbsorbing 12 = .ok (.iconst 4, 1) := k_7 zcX5_firstAbsorbing rfl rfl
theorem dX5_firstAbsorbing_13 : decode cX5_firstAbsorbing 13 = .ok (.if_icmp .ge 37, 3) := k_162 zcX5_firstAbsorbing rfl rfl rfl
theorem dX5_firstAbsorbing_16 : decode cX5_firstAbsorbing 16 = .ok (.iload_n 2, 1) := k_28 zcX5_firstAbsorbing rfl rfl
theorem dX5_firstAbsorbing_17 : decode cX5_firstAbsorbing 17 = .ok (.aload_n 0, 1) := k_42 zcX5_firstAbsorbing rfl rfl
theorem dX5_firstAbsorbing_18 : decode cX5_firstAbsorbing 18 = .ok (.iload_n 1, 1) := k_27 zcX5_firstAbsorbing rfl rfl
theorem dX5_firstAbsorbing_19 : decode cX5_firstAbsorbing 19 = .ok (.iload_n 3, 1) := k_29 zcX5_firstAbsorbing rfl rfl
theorem dX5_firstAbsorbing_20 : decode cX5_firstAbsorbing 20 = .ok (.invokevirtual 90, 3) := k_182 zcX5_firstAbsorbing rfl rfl rfl
theorem dX5_firstAbsorbing_23 : decode cX5_firstAbsorbing 23 = .ok (.iload_n 1, 1) := k_27 zcX5_firstAbsorbing rfl rfl
theorem dX5_firstAbsorbing_24 : decode cX5_firstAbsorbing 24 = .ok (.if_icmp .ne 17, 3) := k_160 zcX5_firstAbsorbing rfl rfl rfl
theorem dX5_firstAbsorbing_27 : decode cX5_firstAbsorbing 27 = .ok (.aload_n 0, 1) := k_42 zcX5_firstAbsorbing rfl rfl
theorem dX5_firstAbsorbing_28 : decode cX5_firstAbsorbing 28 = .ok (.iload_n 3, 1) := k_29 zcX5_firstAbsorbing rfl rfl
theorem dX5_firstAbsorbing_29 : decode cX5_firstAbsorbing 29 = .ok (.iload_n 1, 1) := k_27 zcX5_firstAbsorbing rfl rfl
theorem dX5_firstAbsorbing_30 : decode cX5_firstAbsorbing 30 = .ok (.invokevirtual 90, 3) := k_182 zcX5_firstAbsorbing rfl rfl rfl
theorem dX5_firstAbsorbing_33 : decode cX5_firstAbsorbing 33 = .ok (.iload_n 1, 1) := k_27 zcX5_firstAbsorbing rfl rfl
theorem dX5_firstAbsorbing_34 : decode cX5_firstAbsorbing 34 = .ok (.if_icmp .ne 7, 3) := k_160 zcX5_firstAbsorbing rfl rfl rfl
theorem dX5_firstAbsorbing_37 : decode cX5_firstAbsorbing 37 = .ok (.iconst 1, 1) := k_4 zcX5_firstAbsorbing rfl rfl
theorem dX5_firstAbsorbing_38 : decode cX5_firstAbsorbing 38 = .ok (.goto 4, 3) := k_167 zcX5_firstAbsorbing rfl rfl rfl
theorem dX5_firstAbsorbing_41 : decode cX5_firstAbsorbing 41 = .ok (.iconst 0, 1) := k_3 zcX5_firstAbsorbing rfl rfl
theorem dX5_firstAbsorbing_42 : decode cX5_firstAbsorbing 42 = .ok (.iadd, 1) := k_96 zcX5_firstAbsorbing rfl rfl
theorem dX5_firstAbsorbing_43 : decode cX5_firstAbsorbing 43 = .ok (.istore_n 2, 1) := k_61 zcX5_firstAbsorbing rfl rfl
theorem dX5_firstAbsorbing_44 : decode cX5_firstAbsorbing 44 = .ok (.iinc 3 1, 3) := k_132 zcX5_firstAbsorbing rfl rfl rfl rfl
theorem dX5_firstAbsorbing_47 : decode cX5_firstAbsorbing 47 = .ok (.goto (-36), 3) := k_167 zcX5_firstAbsorbing rfl rfl rfl
theorem dX5_firstAbsorbing_50 : decode cX5_firstAbsorbing 50 = .ok (.iload_n 2, 1) := k_28 zcX5_firstAbsorbing rfl rfl
theorem dX5_firstAbsorbing_51 : decode cX5_firstAbsorbing 51 = .ok (.iconst 4, 1) := k_7 zcX5_firstAbsorbing rfl rfl
theorem dX5_firstAbsorbing_52 : decode cX5_firstAbsorbing 52 = .ok (.if_icmp .ne 5, 3) := k_160 zcX5_firstAbsorbing rfl rfl rfl
theorem dX5_firstAbsorbing_55 : decode cX5_firstAbsorbing 55 = .ok (.iload_n 1, 1) := k_27 zcX5_firstAbsorbing rfl rfl
theorem dX5_firstAbsorbing_56 : decode cX5_firstAbsorbing 56 = .ok (.ireturn, 1) := k_172 zcX5_firstAbsorbing rfl rfl
theorem dX5_firstAbsorbing_57 : decode cX5_firstAbsorbing 57 = .ok (.iinc 1 1, 3) := k_132 zcX5_firstAbsorbing rfl rfl rfl rfl
theorem dX5_firstAbsorbing_60 : decode cX5_firstAbsorbing 60 = .ok (.goto (-58), 3) := k_167 zcX5_firstAbsorbing rfl rfl rfl
theorem dX5_firstAbsorbing_63 : decode cX5_firstAbsorbing 63 = .ok (.iconst (-1), 1) := k_2 zcX5_firstAbsorbing rfl rfl
theorem dX5_firstAbsorbing_64 : decode cX5_firstAbsorbing 64 = .ok (.ireturn, 1) := k_172 zcX5_firstAbsorbing rfl rfl
theorem dX5_idempotents_0 : decode cX5_idempotents 0 = .ok (.iconst 0, 1) := k_3 zcX5_idempotents rfl rfl
theorem dX5_idempotents_1 : decode cX5_idempotents 1 = .ok (.istore_n 1, 1) := k_60 zcX5_idempotents rfl rfl
theorem dX5_idempotents_2 : decode cX5_idempotents 2 = .ok (.iconst 0, 1) := k_3 zcX5_idempotents rfl rfl
theorem dX5_idempotents_3 : decode cX5_idempotents 3 = .ok (.istore_n 2, 1) := k_61 zcX5_idempotents rfl rfl
theorem dX5_idempotents_4 : decode cX5_idempotents 4 = .ok (.iload_n 2, 1) := k_28 zcX5_idempotents rfl rfl
theorem dX5_idempotents_5 : decode cX5_idempotents 5 = .ok (.iconst 4, 1) := k_7 zcX5_idempotents rfl rfl
theorem dX5_idempotents_6 : decode cX5_idempotents 6 = .ok (.if_icmp .ge 27, 3) := k_162 zcX5_idempotents rfl rfl rfl
theorem dX5_idempotents_9 : decode cX5_idempotents 9 = .ok (.iload_n 1, 1) := k_27 zcX5_idempotents rfl rfl
theorem dX5_idempotents_10 : decode cX5_idempotents 10 = .ok (.aload_n 0, 1) := k_42 zcX5_idempotents rfl rfl
theorem dX5_idempotents_11 : decode cX5_idempotents 11 = .ok (.iload_n 2, 1) := k_28 zcX5_idempotents rfl rfl
theorem dX5_idempotents_12 : decode cX5_idempotents 12 = .ok (.iload_n 2, 1) := k_28 zcX5_idempotents rfl rfl
theorem dX5_idempotents_13 : decode cX5_idempotents 13 = .ok (.invokevirtual 90, 3) := k_182 zcX5_idempotents rfl rfl rfl
theorem dX5_idempotents_16 : decode cX5_idempotents 16 = .ok (.iload_n 2, 1) := k_28 zcX5_idempotents rfl rfl
theorem dX5_idempotents_17 : decode cX5_idempotents 17 = .ok (.if_icmp .ne 7, 3) := k_160 zcX5_idempotents rfl rfl rfl
theorem dX5_idempotents_20 : decode cX5_idempotents 20 = .ok (.iconst 1, 1) := k_4 zcX5_idempotents rfl rfl
theorem dX5_idempotents_21 : decode cX5_idempotents 21 = .ok (.goto 4, 3) := k_167 zcX5_idempotents rfl rfl rfl
theorem dX5_idempotents_24 : decode cX5_idempotents 24 = .ok (.iconst 0, 1) := k_3 zcX5_idempotents rfl rfl
theorem dX5_idempotents_25 : decode cX5_idempotents 25 = .ok (.iadd, 1) := k_96 zcX5_idempotents rfl rfl
theorem dX5_idempotents_26 : decode cX5_idempotents 26 = .ok (.istore_n 1, 1) := k_60 zcX5_idempotents rfl rfl
theorem dX5_idempotents_27 : decode cX5_idempotents 27 = .ok (.iinc 2 1, 3) := k_132 zcX5_idempotents rfl rfl rfl rfl
theorem dX5_idempotents_30 : decode cX5_idempotents 30 = .ok (.goto (-26), 3) := k_167 zcX5_idempotents rfl rfl rfl
theorem dX5_idempotents_33 : decode cX5_idempotents 33 = .ok (.iload_n 1, 1) := k_27 zcX5_idempotents rfl rfl
theorem dX5_idempotents_34 : decode cX5_idempotents 34 = .ok (.ireturn, 1) := k_172 zcX5_idempotents rfl rfl
theorem dX5_commutingPairs_0 : decode cX5_commutingPairs 0 = .ok (.iconst 0, 1) := k_3 zcX5_commutingPairs rfl rfl
theorem dX5_commutingPairs_1 : decode cX5_commutingPairs 1 = .ok (.istore_n 1, 1) := k_60 zcX5_commutingPairs rfl rfl
theorem dX5_commutingPairs_2 : decode cX5_commutingPairs 2 = .ok (.iconst 0, 1) := k_3 zcX5_commutingPairs rfl rfl
theorem dX5_commutingPairs_3 : decode cX5_commutingPairs 3 = .ok (.istore_n 2, 1) := k_61 zcX5_commutingPairs rfl rfl
theorem dX5_commutingPairs_4 : decode cX5_commutingPairs 4 = .ok (.iload_n 2, 1) := k_28 zcX5_commutingPairs rfl rfl
theorem dX5_commutingPairs_5 : decode cX5_commutingPairs 5 = .ok (.iconst 4, 1) := k_7 zcX5_commutingPairs rfl rfl
theorem dX5_commutingPairs_6 : decode cX5_commutingPairs 6 = .ok (.if_icmp .ge 45, 3) := k_162 zcX5_commutingPairs rfl rfl rfl
theorem dX5_commutingPairs_9 : decode cX5_commutingPairs 9 = .ok (.iconst 0, 1) := k_3 zcX5_commutingPairs rfl rfl
theorem dX5_commutingPairs_10 : decode cX5_commutingPairs 10 = .ok (.istore_n 3, 1) := k_62 zcX5_commutingPairs rfl rfl
theorem dX5_commutingPairs_11 : decode cX5_commutingPairs 11 = .ok (.iload_n 3, 1) := k_29 zcX5_commutingPairs rfl rfl
theorem dX5_commutingPairs_12 : decode cX5_commutingPairs 12 = .ok (.iconst 4, 1) := k_7 zcX5_commutingPairs rfl rfl
theorem dX5_commutingPairs_13 : decode cX5_commutingPairs 13 = .ok (.if_icmp .ge 32, 3) := k_162 zcX5_commutingPairs rfl rfl rfl
theorem dX5_commutingPairs_16 : decode cX5_commutingPairs 16 = .ok (.iload_n 1, 1) := k_27 zcX5_commutingPairs rfl rfl
theorem dX5_commutingPairs_17 : decode cX5_commutingPairs 17 = .ok (.aload_n 0, 1) := k_42 zcX5_commutingPairs rfl rfl
theorem dX5_commutingPairs_18 : decode cX5_commutingPairs 18 = .ok (.iload_n 2, 1) := k_28 zcX5_commutingPairs rfl rfl
theorem dX5_commutingPairs_19 : decode cX5_commutingPairs 19 = .ok (.iload_n 3, 1) := k_29 zcX5_commutingPairs rfl rfl
theorem dX5_commutingPairs_20 : decode cX5_commutingPairs 20 = .ok (.invokevirtual 90, 3) := k_182 zcX5_commutingPairs rfl rfl rfl
theorem dX5_commutingPairs_23 : decode cX5_commutingPairs 23 = .ok (.aload_n 0, 1) := k_42 zcX5_commutingPairs rfl rfl
theorem dX5_commutingPairs_24 : decode cX5_commutingPairs 24 = .ok (.iload_n 3, 1) := k_29 zcX5_commutingPairs rfl rfl
theorem dX5_commutingPairs_25 : decode cX5_commutingPairs 25 = .ok (.iload_n 2, 1) := k_28 zcX5_commutingPairs rfl rfl
theorem dX5_commutingPairs_26 : decode cX5_commutingPairs 26 = .ok (.invokevirtual 90, 3) := k_182 zcX5_commutingPairs rfl rfl rfl
theorem dX5_commutingPairs_29 : decode cX5_commutingPairs 29 = .ok (.if_icmp .ne 7, 3) := k_160 zcX5_commutingPairs rfl rfl rfl
theorem dX5_commutingPairs_32 : decode cX5_commutingPairs 32 = .ok (.iconst 1, 1) := k_4 zcX5_commutingPairs rfl rfl
theorem dX5_commutingPairs_33 : decode cX5_commutingPairs 33 = .ok (.goto 4, 3) := k_167 zcX5_commutingPairs rfl rfl rfl
theorem dX5_commutingPairs_36 : decode cX5_commutingPairs 36 = .ok (.iconst 0, 1) := k_3 zcX5_commutingPairs rfl rfl
theorem dX5_commutingPairs_37 : decode cX5_commutingPairs 37 = .ok (.iadd, 1) := k_96 zcX5_commutingPairs rfl rfl
theorem dX5_commutingPairs_38 : decode cX5_commutingPairs 38 = .ok (.istore_n 1, 1) := k_60 zcX5_commutingPairs rfl rfl
theorem dX5_commutingPairs_39 : decode cX5_commutingPairs 39 = .ok (.iinc 3 1, 3) := k_132 zcX5_commutingPairs rfl rfl rfl rfl
theorem dX5_commutingPairs_42 : decode cX5_commutingPairs 42 = .ok (.goto (-31), 3) := k_167 zcX5_commutingPairs rfl rfl rfl
theorem dX5_commutingPairs_45 : decode cX5_commutingPairs 45 = .ok (.iinc 2 1, 3) := k_132 zcX5_commutingPairs rfl rfl rfl rfl
theorem dX5_commutingPairs_48 : decode cX5_commutingPairs 48 = .ok (.goto (-44), 3) := k_167 zcX5_commutingPairs rfl rfl rfl
theorem dX5_commutingPairs_51 : decode cX5_commutingPairs 51 = .ok (.iload_n 1, 1) := k_27 zcX5_commutingPairs rfl rfl
theorem dX5_commutingPairs_52 : decode cX5_commutingPairs 52 = .ok (.ireturn, 1) := k_172 zcX5_commutingPairs rfl rfl
theorem dX5_isUsed_0 : decode cX5_isUsed 0 = .ok (.iconst 0, 1) := k_3 zcX5_isUsed rfl rfl
theorem dX5_isUsed_1 : decode cX5_isUsed 1 = .ok (.istore_n 2, 1) := k_61 zcX5_isUsed rfl rfl
theorem dX5_isUsed_2 : decode cX5_isUsed 2 = .ok (.iload_n 2, 1) := k_28 zcX5_isUsed rfl rfl
theorem dX5_isUsed_3 : decode cX5_isUsed 3 = .ok (.iconst 4, 1) := k_7 zcX5_isUsed rfl rfl
theorem dX5_isUsed_4 : decode cX5_isUsed 4 = .ok (.if_icmp .ge 36, 3) := k_162 zcX5_isUsed rfl rfl rfl
theorem dX5_isUsed_7 : decode cX5_isUsed 7 = .ok (.aload_n 0, 1) := k_42 zcX5_isUsed rfl rfl
theorem dX5_isUsed_8 : decode cX5_isUsed 8 = .ok (.getfield 13, 3) := k_180 zcX5_isUsed rfl rfl rfl
theorem dX5_isUsed_11 : decode cX5_isUsed 11 = .ok (.iload_n 2, 1) := k_28 zcX5_isUsed rfl rfl
theorem dX5_isUsed_12 : decode cX5_isUsed 12 = .ok (.aaload, 1) := k_50 zcX5_isUsed rfl rfl
theorem dX5_isUsed_13 : decode cX5_isUsed 13 = .ok (.getfield 94, 3) := k_180 zcX5_isUsed rfl rfl rfl
theorem dX5_isUsed_16 : decode cX5_isUsed 16 = .ok (.ifCond .eq 18, 3) := k_153 zcX5_isUsed rfl rfl rfl
theorem dX5_isUsed_19 : decode cX5_isUsed 19 = .ok (.aload_n 0, 1) := k_42 zcX5_isUsed rfl rfl
theorem dX5_isUsed_20 : decode cX5_isUsed 20 = .ok (.getfield 13, 3) := k_180 zcX5_isUsed rfl rfl rfl
theorem dX5_isUsed_23 : decode cX5_isUsed 23 = .ok (.iload_n 2, 1) := k_28 zcX5_isUsed rfl rfl
theorem dX5_isUsed_24 : decode cX5_isUsed 24 = .ok (.aaload, 1) := k_50 zcX5_isUsed rfl rfl
theorem dX5_isUsed_25 : decode cX5_isUsed 25 = .ok (.getfield 98, 3) := k_180 zcX5_isUsed rfl rfl rfl
theorem dX5_isUsed_28 : decode cX5_isUsed 28 = .ok (.iload_n 1, 1) := k_27 zcX5_isUsed rfl rfl
theorem dX5_isUsed_29 : decode cX5_isUsed 29 = .ok (.if_icmp .ne 5, 3) := k_160 zcX5_isUsed rfl rfl rfl
theorem dX5_isUsed_32 : decode cX5_isUsed 32 = .ok (.iconst 1, 1) := k_4 zcX5_isUsed rfl rfl
theorem dX5_isUsed_33 : decode cX5_isUsed 33 = .ok (.ireturn, 1) := k_172 zcX5_isUsed rfl rfl
theorem dX5_isUsed_34 : decode cX5_isUsed 34 = .ok (.iinc 2 1, 3) := k_132 zcX5_isUsed rfl rfl rfl rfl
theorem dX5_isUsed_37 : decode cX5_isUsed 37 = .ok (.goto (-35), 3) := k_167 zcX5_isUsed rfl rfl rfl
theorem dX5_isUsed_40 : decode cX5_isUsed 40 = .ok (.iconst 0, 1) := k_3 zcX5_isUsed rfl rfl
theorem dX5_isUsed_41 : decode cX5_isUsed 41 = .ok (.istore_n 2, 1) := k_61 zcX5_isUsed rfl rfl
theorem dX5_isUsed_42 : decode cX5_isUsed 42 = .ok (.iload_n 2, 1) := k_28 zcX5_isUsed rfl rfl
theorem dX5_isUsed_43 : decode cX5_isUsed 43 = .ok (.iconst 3, 1) := k_6 zcX5_isUsed rfl rfl
theorem dX5_isUsed_44 : decode cX5_isUsed 44 = .ok (.if_icmp .ge 36, 3) := k_162 zcX5_isUsed rfl rfl rfl
theorem dX5_isUsed_47 : decode cX5_isUsed 47 = .ok (.aload_n 0, 1) := k_42 zcX5_isUsed rfl rfl
theorem dX5_isUsed_48 : decode cX5_isUsed 48 = .ok (.getfield 27, 3) := k_180 zcX5_isUsed rfl rfl rfl
theorem dX5_isUsed_51 : decode cX5_isUsed 51 = .ok (.iload_n 2, 1) := k_28 zcX5_isUsed rfl rfl
theorem dX5_isUsed_52 : decode cX5_isUsed 52 = .ok (.aaload, 1) := k_50 zcX5_isUsed rfl rfl
theorem dX5_isUsed_53 : decode cX5_isUsed 53 = .ok (.getfield 94, 3) := k_180 zcX5_isUsed rfl rfl rfl
theorem dX5_isUsed_56 : decode cX5_isUsed 56 = .ok (.ifCond .eq 18, 3) := k_153 zcX5_isUsed rfl rfl rfl
theorem dX5_isUsed_59 : decode cX5_isUsed 59 = .ok (.aload_n 0, 1) := k_42 zcX5_isUsed rfl rfl
theorem dX5_isUsed_60 : decode cX5_isUsed 60 = .ok (.getfield 27, 3) := k_180 zcX5_isUsed rfl rfl rfl
theorem dX5_isUsed_63 : decode cX5_isUsed 63 = .ok (.iload_n 2, 1) := k_28 zcX5_isUsed rfl rfl
theorem dX5_isUsed_64 : decode cX5_isUsed 64 = .ok (.aaload, 1) := k_50 zcX5_isUsed rfl rfl
theorem dX5_isUsed_65 : decode cX5_isUsed 65 = .ok (.getfield 98, 3) := k_180 zcX5_isUsed rfl rfl rfl
theorem dX5_isUsed_68 : decode cX5_isUsed 68 = .ok (.iload_n 1, 1) := k_27 zcX5_isUsed rfl rfl
theorem dX5_isUsed_69 : decode cX5_isUsed 69 = .ok (.if_icmp .ne 5, 3) := k_160 zcX5_isUsed rfl rfl rfl
theorem dX5_isUsed_72 : decode cX5_isUsed 72 = .ok (.iconst 1, 1) := k_4 zcX5_isUsed rfl rfl
theorem dX5_isUsed_73 : decode cX5_isUsed 73 = .ok (.ireturn, 1) := k_172 zcX5_isUsed rfl rfl
theorem dX5_isUsed_74 : decode cX5_isUsed 74 = .ok (.iinc 2 1, 3) := k_132 zcX5_isUsed rfl rfl rfl rfl
theorem dX5_isUsed_77 : decode cX5_isUsed 77 = .ok (.goto (-35), 3) := k_167 zcX5_isUsed rfl rfl rfl
theorem dX5_isUsed_80 : decode cX5_isUsed 80 = .ok (.iconst 0, 1) := k_3 zcX5_isUsed rfl rfl
theorem dX5_isUsed_81 : decode cX5_isUsed 81 = .ok (.ireturn, 1) := k_172 zcX5_isUsed rfl rfl
theorem dX5_open_0 : decode cX5_open 0 = .ok (.iload_n 1, 1) := k_27 zcX5_open rfl rfl
theorem dX5_open_1 : decode cX5_open 1 = .ok (.invokestatic 102, 3) := k_184 zcX5_open rfl rfl rfl
theorem dX5_open_4 : decode cX5_open 4 = .ok (.ifCond .eq 34, 3) := k_153 zcX5_open rfl rfl rfl
theorem dX5_open_7 : decode cX5_open 7 = .ok (.iload_n 2, 1) := k_28 zcX5_open rfl rfl
theorem dX5_open_8 : decode cX5_open 8 = .ok (.iconst 0, 1) := k_3 zcX5_open rfl rfl
theorem dX5_open_9 : decode cX5_open 9 = .ok (.bipush 9, 2) := k_16 zcX5_open rfl rfl rfl
theorem dX5_open_11 : decode cX5_open 11 = .ok (.invokestatic 59, 3) := k_184 zcX5_open rfl rfl rfl
theorem dX5_open_14 : decode cX5_open 14 = .ok (.ifCond .eq 24, 3) := k_153 zcX5_open rfl rfl rfl
theorem dX5_open_17 : decode cX5_open 17 = .ok (.iload 5, 2) := k_21 zcX5_open rfl rfl rfl
theorem dX5_open_19 : decode cX5_open 19 = .ok (.iconst 0, 1) := k_3 zcX5_open rfl rfl
theorem dX5_open_20 : decode cX5_open 20 = .ok (.sipush 10000, 3) := k_17 zcX5_open rfl rfl rfl
theorem dX5_open_23 : decode cX5_open 23 = .ok (.invokestatic 59, 3) := k_184 zcX5_open rfl rfl rfl
theorem dX5_open_26 : decode cX5_open 26 = .ok (.ifCond .eq 12, 3) := k_153 zcX5_open rfl rfl rfl
theorem dX5_open_29 : decode cX5_open 29 = .ok (.iload_n 3, 1) := k_29 zcX5_open rfl rfl
theorem dX5_open_30 : decode cX5_open 30 = .ok (.iload 4, 2) := k_21 zcX5_open rfl rfl rfl
theorem dX5_open_32 : decode cX5_open 32 = .ok (.invokestatic 105, 3) := k_184 zcX5_open rfl rfl rfl
theorem dX5_open_35 : decode cX5_open 35 = .ok (.ifCond .ne 5, 3) := k_154 zcX5_open rfl rfl rfl
theorem dX5_open_38 : decode cX5_open 38 = .ok (.iconst (-1), 1) := k_2 zcX5_open rfl rfl
theorem dX5_open_39 : decode cX5_open 39 = .ok (.ireturn, 1) := k_172 zcX5_open rfl rfl
theorem dX5_open_40 : decode cX5_open 40 = .ok (.iload_n 2, 1) := k_28 zcX5_open rfl rfl
theorem dX5_open_41 : decode cX5_open 41 = .ok (.bipush 9, 2) := k_16 zcX5_open rfl rfl rfl
theorem dX5_open_43 : decode cX5_open 43 = .ok (.if_icmp .ne 15, 3) := k_160 zcX5_open rfl rfl rfl
theorem dX5_open_46 : decode cX5_open 46 = .ok (.aload_n 0, 1) := k_42 zcX5_open rfl rfl
theorem dX5_open_47 : decode cX5_open 47 = .ok (.iconst 3, 1) := k_6 zcX5_open rfl rfl
theorem dX5_open_48 : decode cX5_open 48 = .ok (.invokevirtual 109, 3) := k_182 zcX5_open rfl rfl rfl
theorem dX5_open_51 : decode cX5_open 51 = .ok (.bipush 64, 2) := k_16 zcX5_open rfl rfl rfl
theorem dX5_open_53 : decode cX5_open 53 = .ok (.if_icmp .eq 5, 3) := k_159 zcX5_open rfl rfl rfl
theorem dX5_open_56 : decode cX5_open 56 = .ok (.iconst (-1), 1) := k_2 zcX5_open rfl rfl
theorem dX5_open_57 : decode cX5_open 57 = .ok (.ireturn, 1) := k_172 zcX5_open rfl rfl
theorem dX5_open_58 : decode cX5_open 58 = .ok (.aload_n 0, 1) := k_42 zcX5_open rfl rfl
theorem dX5_open_59 : decode cX5_open 59 = .ok (.getfield 13, 3) := k_180 zcX5_open rfl rfl rfl
theorem dX5_open_62 : decode cX5_open 62 = .ok (.iload_n 1, 1) := k_27 zcX5_open rfl rfl
theorem dX5_open_63 : decode cX5_open 63 = .ok (.aaload, 1) := k_50 zcX5_open rfl rfl
theorem dX5_open_64 : decode cX5_open 64 = .ok (.iload_n 2, 1) := k_28 zcX5_open rfl rfl
theorem dX5_open_65 : decode cX5_open 65 = .ok (.iload_n 3, 1) := k_29 zcX5_open rfl rfl
theorem dX5_open_66 : decode cX5_open 66 = .ok (.iload_n 3, 1) := k_29 zcX5_open rfl rfl
theorem dX5_open_67 : decode cX5_open 67 = .ok (.ifCond .ne 7, 3) := k_154 zcX5_open rfl rfl rfl
theorem dX5_open_70 : decode cX5_open 70 = .ok (.iconst 0, 1) := k_3 zcX5_open rfl rfl
theorem dX5_open_71 : decode cX5_open 71 = .ok (.goto 5, 3) := k_167 zcX5_open rfl rfl rfl
theorem dX5_open_74 : decode cX5_open 74 = .ok (.iload 4, 2) := k_21 zcX5_open rfl rfl rfl
theorem dX5_open_76 : decode cX5_open 76 = .ok (.iload 5, 2) := k_21 zcX5_open rfl rfl rfl
theorem dX5_open_78 : decode cX5_open 78 = .ok (.invokevirtual 113, 3) := k_182 zcX5_open rfl rfl rfl
theorem dX5_open_81 : decode cX5_open 81 = .ok (.aload_n 0, 1) := k_42 zcX5_open rfl rfl
theorem dX5_open_82 : decode cX5_open 82 = .ok (.iload_n 1, 1) := k_27 zcX5_open rfl rfl
theorem dX5_open_83 : decode cX5_open 83 = .ok (.invokevirtual 117, 3) := k_182 zcX5_open rfl rfl rfl
theorem dX5_open_86 : decode cX5_open 86 = .ok (.aload_n 0, 1) := k_42 zcX5_open rfl rfl
theorem dX5_open_87 : decode cX5_open 87 = .ok (.invokevirtual 120, 3) := k_182 zcX5_open rfl rfl rfl
theorem dX5_open_90 : decode cX5_open 90 = .ok (.ireturn, 1) := k_172 zcX5_open rfl rfl
theorem dX5_isSize_0 : decode cX5_isSize 0 = .ok (.iload_n 0, 1) := k_26 zcX5_isSize rfl rfl
theorem dX5_isSize_1 : decode cX5_isSize 1 = .ok (.tableswitch 46 0 2 #[27, 29, 37], 27) := by decide +kernel
theorem dX5_isSize_28 : decode cX5_isSize 28 = .ok (.iconst 1, 1) := k_4 zcX5_isSize rfl rfl
theorem dX5_isSize_29 : decode cX5_isSize 29 = .ok (.ireturn, 1) := k_172 zcX5_isSize rfl rfl
theorem dX5_isSize_30 : decode cX5_isSize 30 = .ok (.iload_n 1, 1) := k_27 zcX5_isSize rfl rfl
theorem dX5_isSize_31 : decode cX5_isSize 31 = .ok (.iconst 1, 1) := k_4 zcX5_isSize rfl rfl
theorem dX5_isSize_32 : decode cX5_isSize 32 = .ok (.bipush 120, 2) := k_16 zcX5_isSize rfl rfl rfl
theorem dX5_isSize_34 : decode cX5_isSize 34 = .ok (.invokestatic 59, 3) := k_184 zcX5_isSize rfl rfl rfl
theorem dX5_isSize_37 : decode cX5_isSize 37 = .ok (.ireturn, 1) := k_172 zcX5_isSize rfl rfl
theorem dX5_isSize_38 : decode cX5_isSize 38 = .ok (.iload_n 1, 1) := k_27 zcX5_isSize rfl rfl
theorem dX5_isSize_39 : decode cX5_isSize 39 = .ok (.iconst 1, 1) := k_4 zcX5_isSize rfl rfl
theorem dX5_isSize_40 : decode cX5_isSize 40 = .ok (.sipush 10000, 3) := k_17 zcX5_isSize rfl rfl rfl
theorem dX5_isSize_43 : decode cX5_isSize 43 = .ok (.invokestatic 59, 3) := k_184 zcX5_isSize rfl rfl rfl
theorem dX5_isSize_46 : decode cX5_isSize 46 = .ok (.ireturn, 1) := k_172 zcX5_isSize rfl rfl
theorem dX5_isSize_47 : decode cX5_isSize 47 = .ok (.iconst 0, 1) := k_3 zcX5_isSize rfl rfl
theorem dX5_isSize_48 : decode cX5_isSize 48 = .ok (.ireturn, 1) := k_172 zcX5_isSize rfl rfl
theorem dX5_shut_0 : decode cX5_shut 0 = .ok (.aload_n 0, 1) := k_42 zcX5_shut rfl rfl
theorem dX5_shut_1 : decode cX5_shut 1 = .ok (.iload_n 1, 1) := k_27 zcX5_shut rfl rfl
theorem dX5_shut_2 : decode cX5_shut 2 = .ok (.invokevirtual 123, 3) := k_182 zcX5_shut rfl rfl rfl
theorem dX5_shut_5 : decode cX5_shut 5 = .ok (.astore_n 2, 1) := k_77 zcX5_shut rfl rfl
theorem dX5_shut_6 : decode cX5_shut 6 = .ok (.aload_n 2, 1) := k_44 zcX5_shut rfl rfl
theorem dX5_shut_7 : decode cX5_shut 7 = .ok (.ifnonnull 5, 3) := k_199 zcX5_shut rfl rfl rfl
theorem dX5_shut_10 : decode cX5_shut 10 = .ok (.iconst 0, 1) := k_3 zcX5_shut rfl rfl
theorem dX5_shut_11 : decode cX5_shut 11 = .ok (.ireturn, 1) := k_172 zcX5_shut rfl rfl
theorem dX5_shut_12 : decode cX5_shut 12 = .ok (.aload_n 2, 1) := k_44 zcX5_shut rfl rfl
theorem dX5_shut_13 : decode cX5_shut 13 = .ok (.iconst 0, 1) := k_3 zcX5_shut rfl rfl
theorem dX5_shut_14 : decode cX5_shut 14 = .ok (.putfield 94, 3) := k_181 zcX5_shut rfl rfl rfl
theorem dX5_shut_17 : decode cX5_shut 17 = .ok (.aload_n 0, 1) := k_42 zcX5_shut rfl rfl
theorem dX5_shut_18 : decode cX5_shut 18 = .ok (.iload_n 1, 1) := k_27 zcX5_shut rfl rfl
theorem dX5_shut_19 : decode cX5_shut 19 = .ok (.invokevirtual 117, 3) := k_182 zcX5_shut rfl rfl rfl
theorem dX5_shut_22 : decode cX5_shut 22 = .ok (.iconst 1, 1) := k_4 zcX5_shut rfl rfl
theorem dX5_shut_23 : decode cX5_shut 23 = .ok (.ireturn, 1) := k_172 zcX5_shut rfl rfl
theorem dX5_come_0 : decode cX5_come 0 = .ok (.aload_n 0, 1) := k_42 zcX5_come rfl rfl
theorem dX5_come_1 : decode cX5_come 1 = .ok (.iload_n 1, 1) := k_27 zcX5_come rfl rfl
theorem dX5_come_2 : decode cX5_come 2 = .ok (.invokevirtual 123, 3) := k_182 zcX5_come rfl rfl rfl
theorem dX5_come_5 : decode cX5_come 5 = .ok (.astore 4, 2) := k_58 zcX5_come rfl rfl rfl
theorem dX5_come_7 : decode cX5_come 7 = .ok (.aload 4, 2) := k_25 zcX5_come rfl rfl rfl
theorem dX5_come_9 : decode cX5_come 9 = .ok (.ifnull 17, 3) := k_198 zcX5_come rfl rfl rfl
theorem dX5_come_12 : decode cX5_come 12 = .ok (.iload_n 2, 1) := k_28 zcX5_come rfl rfl
theorem dX5_come_13 : decode cX5_come 13 = .ok (.invokestatic 127, 3) := k_184 zcX5_come rfl rfl rfl
theorem dX5_come_16 : decode cX5_come 16 = .ok (.ifCond .eq 10, 3) := k_153 zcX5_come rfl rfl rfl
theorem dX5_come_19 : decode cX5_come 19 = .ok (.iload_n 3, 1) := k_29 zcX5_come rfl rfl
theorem dX5_come_20 : decode cX5_come 20 = .ok (.invokestatic 130, 3) := k_184 zcX5_come rfl rfl rfl
theorem dX5_come_23 : decode cX5_come 23 = .ok (.ifCond .ne 5, 3) := k_154 zcX5_come rfl rfl rfl
theorem dX5_come_26 : decode cX5_come 26 = .ok (.iconst (-1), 1) := k_2 zcX5_come rfl rfl
theorem dX5_come_27 : decode cX5_come 27 = .ok (.ireturn, 1) := k_172 zcX5_come rfl rfl
theorem dX5_come_28 : decode cX5_come 28 = .ok (.aload 4, 2) := k_25 zcX5_come rfl rfl rfl
theorem dX5_come_30 : decode cX5_come 30 = .ok (.iload_n 2, 1) := k_28 zcX5_come rfl rfl
theorem dX5_come_31 : decode cX5_come 31 = .ok (.invokevirtual 133, 3) := k_182 zcX5_come rfl rfl rfl
theorem dX5_come_34 : decode cX5_come 34 = .ok (.ifCond .eq 17, 3) := k_153 zcX5_come rfl rfl rfl
theorem dX5_come_37 : decode cX5_come 37 = .ok (.aload 4, 2) := k_25 zcX5_come rfl rfl rfl
theorem dX5_come_39 : decode cX5_come 39 = .ok (.dup, 1) := k_89 zcX5_come rfl rfl
theorem dX5_come_40 : decode cX5_come 40 = .ok (.getfield 136, 3) := k_180 zcX5_come rfl rfl rfl
theorem dX5_come_43 : decode cX5_come 43 = .ok (.iconst 1, 1) := k_4 zcX5_come rfl rfl
theorem dX5_come_44 : decode cX5_come 44 = .ok (.iadd, 1) := k_96 zcX5_come rfl rfl
theorem dX5_come_45 : decode cX5_come 45 = .ok (.putfield 136, 3) := k_181 zcX5_come rfl rfl rfl
theorem dX5_come_48 : decode cX5_come 48 = .ok (.bipush (-2), 2) := k_16 zcX5_come rfl rfl rfl
theorem dX5_come_50 : decode cX5_come 50 = .ok (.ireturn, 1) := k_172 zcX5_come rfl rfl
theorem dX5_come_51 : decode cX5_come 51 = .ok (.aload 4, 2) := k_25 zcX5_come rfl rfl rfl
theorem dX5_come_53 : decode cX5_come 53 = .ok (.invokevirtual 139, 3) := k_182 zcX5_come rfl rfl rfl
theorem dX5_come_56 : decode cX5_come 56 = .ok (.ifCond .eq 5, 3) := k_153 zcX5_come rfl rfl rfl
theorem dX5_come_59 : decode cX5_come 59 = .ok (.iconst (-1), 1) := k_2 zcX5_come rfl rfl
theorem dX5_come_60 : decode cX5_come 60 = .ok (.ireturn, 1) := k_172 zcX5_come rfl rfl
theorem dX5_come_61 : decode cX5_come 61 = .ok (.aload_n 0, 1) := k_42 zcX5_come rfl rfl
theorem dX5_come_62 : decode cX5_come 62 = .ok (.aload 4, 2) := k_25 zcX5_come rfl rfl rfl
theorem dX5_come_64 : decode cX5_come 64 = .ok (.iload_n 2, 1) := k_28 zcX5_come rfl rfl
theorem dX5_come_65 : decode cX5_come 65 = .ok (.invokevirtual 143, 3) := k_182 zcX5_come rfl rfl rfl
theorem dX5_come_68 : decode cX5_come 68 = .ok (.aload_n 0, 1) := k_42 zcX5_come rfl rfl
theorem dX5_come_69 : decode cX5_come 69 = .ok (.aload 4, 2) := k_25 zcX5_come rfl rfl rfl
theorem dX5_come_71 : decode cX5_come 71 = .ok (.iload_n 2, 1) := k_28 zcX5_come rfl rfl
theorem dX5_come_72 : decode cX5_come 72 = .ok (.iload_n 3, 1) := k_29 zcX5_come rfl rfl
theorem dX5_come_73 : decode cX5_come 73 = .ok (.invokevirtual 147, 3) := k_182 zcX5_come rfl rfl rfl
theorem dX5_come_76 : decode cX5_come 76 = .ok (.aload_n 0, 1) := k_42 zcX5_come rfl rfl
theorem dX5_come_77 : decode cX5_come 77 = .ok (.invokevirtual 151, 3) := k_182 zcX5_come rfl rfl rfl
theorem dX5_come_80 : decode cX5_come 80 = .ok (.aload 4, 2) := k_25 zcX5_come rfl rfl rfl
theorem dX5_come_82 : decode cX5_come 82 = .ok (.getfield 154, 3) := k_180 zcX5_come rfl rfl rfl
theorem dX5_come_85 : decode cX5_come 85 = .ok (.ireturn, 1) := k_172 zcX5_come rfl rfl
theorem dX5_burst_0 : decode cX5_burst 0 = .ok (.aload_n 0, 1) := k_42 zcX5_burst rfl rfl
theorem dX5_burst_1 : decode cX5_burst 1 = .ok (.iload_n 1, 1) := k_27 zcX5_burst rfl rfl
theorem dX5_burst_2 : decode cX5_burst 2 = .ok (.invokevirtual 123, 3) := k_182 zcX5_burst rfl rfl rfl
theorem dX5_burst_5 : decode cX5_burst 5 = .ok (.astore 5, 2) := k_58 zcX5_burst rfl rfl rfl
theorem dX5_burst_7 : decode cX5_burst 7 = .ok (.aload 5, 2) := k_25 zcX5_burst rfl rfl rfl
theorem dX5_burst_9 : decode cX5_burst 9 = .ok (.ifnull 27, 3) := k_198 zcX5_burst rfl rfl rfl
theorem dX5_burst_12 : decode cX5_burst 12 = .ok (.iload_n 2, 1) := k_28 zcX5_burst rfl rfl
theorem dX5_burst_13 : decode cX5_burst 13 = .ok (.iconst 1, 1) := k_4 zcX5_burst rfl rfl
theorem dX5_burst_14 : decode cX5_burst 14 = .ok (.bipush 40, 2) := k_16 zcX5_burst rfl rfl rfl
theorem dX5_burst_16 : decode cX5_burst 16 = .ok (.invokestatic 59, 3) := k_184 zcX5_burst rfl rfl rfl
theorem dX5_burst_19 : decode cX5_burst 19 = .ok (.ifCond .eq 17, 3) := k_153 zcX5_burst rfl rfl rfl
theorem dX5_burst_22 : decode cX5_burst 22 = .ok (.iload 4, 2) := k_21 zcX5_burst rfl rfl rfl
theorem dX5_burst_24 : decode cX5_burst 24 = .ok (.sipush (-1000), 3) := k_17 zcX5_burst rfl rfl rfl
theorem dX5_burst_27 : decode cX5_burst 27 = .ok (.sipush 1000, 3) := k_17 zcX5_burst rfl rfl rfl
theorem dX5_burst_30 : decode cX5_burst 30 = .ok (.invokestatic 59, 3) := k_184 zcX5_burst rfl rfl rfl
theorem dX5_burst_33 : decode cX5_burst 33 = .ok (.ifCond .ne 5, 3) := k_154 zcX5_burst rfl rfl rfl
theorem dX5_burst_36 : decode cX5_burst 36 = .ok (.iconst (-1), 1) := k_2 zcX5_burst rfl rfl
theorem dX5_burst_37 : decode cX5_burst 37 = .ok (.ireturn, 1) := k_172 zcX5_burst rfl rfl
theorem dX5_burst_38 : decode cX5_burst 38 = .ok (.iload_n 3, 1) := k_29 zcX5_burst rfl rfl
theorem dX5_burst_39 : decode cX5_burst 39 = .ok (.invokestatic 130, 3) := k_184 zcX5_burst rfl rfl rfl
theorem dX5_burst_42 : decode cX5_burst 42 = .ok (.ifCond .eq 30, 3) := k_153 zcX5_burst rfl rfl rfl
theorem dX5_burst_45 : decode cX5_burst 45 = .ok (.iload_n 3, 1) := k_29 zcX5_burst rfl rfl
theorem dX5_burst_46 : decode cX5_burst 46 = .ok (.iload_n 2, 1) := k_28 zcX5_burst rfl rfl
theorem dX5_burst_47 : decode cX5_burst 47 = .ok (.iconst 1, 1) := k_4 zcX5_burst rfl rfl
theorem dX5_burst_48 : decode cX5_burst 48 = .ok (.isub, 1) := k_100 zcX5_burst rfl rfl
theorem dX5_burst_49 : decode cX5_burst 49 = .ok (.iload 4, 2) := k_21 zcX5_burst rfl rfl rfl
theorem dX5_burst_51 : decode cX5_burst 51 = .ok (.imul, 1) := k_104 zcX5_burst rfl rfl
theorem dX5_burst_52 : decode cX5_burst 52 = .ok (.iadd, 1) := k_96 zcX5_burst rfl rfl
theorem dX5_burst_53 : decode cX5_burst 53 = .ok (.invokestatic 130, 3) := k_184 zcX5_burst rfl rfl rfl
theorem dX5_burst_56 : decode cX5_burst 56 = .ok (.ifCond .eq 16, 3) := k_153 zcX5_burst rfl rfl rfl
theorem dX5_burst_59 : decode cX5_burst 59 = .ok (.aload 5, 2) := k_25 zcX5_burst rfl rfl rfl
theorem dX5_burst_61 : decode cX5_burst 61 = .ok (.getfield 157, 3) := k_180 zcX5_burst rfl rfl rfl
theorem dX5_burst_64 : decode cX5_burst 64 = .ok (.iload_n 2, 1) := k_28 zcX5_burst rfl rfl
theorem dX5_burst_65 : decode cX5_burst 65 = .ok (.iadd, 1) := k_96 zcX5_burst rfl rfl
theorem dX5_burst_66 : decode cX5_burst 66 = .ok (.invokestatic 127, 3) := k_184 zcX5_burst rfl rfl rfl
theorem dX5_burst_69 : decode cX5_burst 69 = .ok (.ifCond .ne 5, 3) := k_154 zcX5_burst rfl rfl rfl
theorem dX5_burst_72 : decode cX5_burst 72 = .ok (.iconst (-1), 1) := k_2 zcX5_burst rfl rfl
theorem dX5_burst_73 : decode cX5_burst 73 = .ok (.ireturn, 1) := k_172 zcX5_burst rfl rfl
theorem dX5_burst_74 : decode cX5_burst 74 = .ok (.aload 5, 2) := k_25 zcX5_burst rfl rfl rfl
theorem dX5_burst_76 : decode cX5_burst 76 = .ok (.getfield 160, 3) := k_180 zcX5_burst rfl rfl rfl
theorem dX5_burst_79 : decode cX5_burst 79 = .ok (.iconst 1, 1) := k_4 zcX5_burst rfl rfl
theorem dX5_burst_80 : decode cX5_burst 80 = .ok (.if_icmp .eq 17, 3) := k_159 zcX5_burst rfl rfl rfl
theorem dX5_burst_83 : decode cX5_burst 83 = .ok (.aload 5, 2) := k_25 zcX5_burst rfl rfl rfl
theorem dX5_burst_85 : decode cX5_burst 85 = .ok (.getfield 154, 3) := k_180 zcX5_burst rfl rfl rfl
theorem dX5_burst_88 : decode cX5_burst 88 = .ok (.iload_n 2, 1) := k_28 zcX5_burst rfl rfl
theorem dX5_burst_89 : decode cX5_burst 89 = .ok (.iadd, 1) := k_96 zcX5_burst rfl rfl
theorem dX5_burst_90 : decode cX5_burst 90 = .ok (.bipush 120, 2) := k_16 zcX5_burst rfl rfl rfl
theorem dX5_burst_92 : decode cX5_burst 92 = .ok (.if_icmp .le 5, 3) := k_164 zcX5_burst rfl rfl rfl
theorem dX5_burst_95 : decode cX5_burst 95 = .ok (.iconst (-1), 1) := k_2 zcX5_burst rfl rfl
theorem dX5_burst_96 : decode cX5_burst 96 = .ok (.ireturn, 1) := k_172 zcX5_burst rfl rfl
theorem dX5_burst_97 : decode cX5_burst 97 = .ok (.iconst 0, 1) := k_3 zcX5_burst rfl rfl
theorem dX5_burst_98 : decode cX5_burst 98 = .ok (.istore 6, 2) := k_54 zcX5_burst rfl rfl rfl
theorem dX5_burst_100 : decode cX5_burst 100 = .ok (.iload 6, 2) := k_21 zcX5_burst rfl rfl rfl
theorem dX5_burst_102 : decode cX5_burst 102 = .ok (.iload_n 2, 1) := k_28 zcX5_burst rfl rfl
theorem dX5_burst_103 : decode cX5_burst 103 = .ok (.if_icmp .ge 41, 3) := k_162 zcX5_burst rfl rfl rfl
theorem dX5_burst_106 : decode cX5_burst 106 = .ok (.aload 5, 2) := k_25 zcX5_burst rfl rfl rfl
theorem dX5_burst_108 : decode cX5_burst 108 = .ok (.getfield 157, 3) := k_180 zcX5_burst rfl rfl rfl
theorem dX5_burst_111 : decode cX5_burst 111 = .ok (.iconst 1, 1) := k_4 zcX5_burst rfl rfl
theorem dX5_burst_112 : decode cX5_burst 112 = .ok (.iadd, 1) := k_96 zcX5_burst rfl rfl
theorem dX5_burst_113 : decode cX5_burst 113 = .ok (.istore 7, 2) := k_54 zcX5_burst rfl rfl rfl
theorem dX5_burst_115 : decode cX5_burst 115 = .ok (.aload_n 0, 1) := k_42 zcX5_burst rfl rfl
theorem dX5_burst_116 : decode cX5_burst 116 = .ok (.aload 5, 2) := k_25 zcX5_burst rfl rfl rfl
theorem dX5_burst_118 : decode cX5_burst 118 = .ok (.iload 7, 2) := k_21 zcX5_burst rfl rfl rfl
theorem dX5_burst_120 : decode cX5_burst 120 = .ok (.invokevirtual 143, 3) := k_182 zcX5_burst rfl rfl rfl
theorem dX5_burst_123 : decode cX5_burst 123 = .ok (.aload_n 0, 1) := k_42 zcX5_burst rfl rfl
theorem dX5_burst_124 : decode cX5_burst 124 = .ok (.aload 5, 2) := k_25 zcX5_burst rfl rfl rfl
theorem dX5_burst_126 : decode cX5_burst 126 = .ok (.iload 7, 2) := k_21 zcX5_burst rfl rfl rfl
theorem dX5_burst_128 : decode cX5_burst 128 = .ok (.iload_n 3, 1) := k_29 zcX5_burst rfl rfl
theorem dX5_burst_129 : decode cX5_burst 129 = .ok (.iload 6, 2) := k_21 zcX5_burst rfl rfl rfl
theorem dX5_burst_131 : decode cX5_burst 131 = .ok (.iload 4, 2) := k_21 zcX5_burst rfl rfl rfl
theorem dX5_burst_133 : decode cX5_burst 133 = .ok (.imul, 1) := k_104 zcX5_burst rfl rfl
theorem dX5_burst_134 : decode cX5_burst 134 = .ok (.iadd, 1) := k_96 zcX5_burst rfl rfl
theorem dX5_burst_135 : decode cX5_burst 135 = .ok (.invokevirtual 147, 3) := k_182 zcX5_burst rfl rfl rfl
theorem dX5_burst_138 : decode cX5_burst 138 = .ok (.iinc 6 1, 3) := k_132 zcX5_burst rfl rfl rfl rfl
theorem dX5_burst_141 : decode cX5_burst 141 = .ok (.goto (-41), 3) := k_167 zcX5_burst rfl rfl rfl
theorem dX5_burst_144 : decode cX5_burst 144 = .ok (.aload_n 0, 1) := k_42 zcX5_burst rfl rfl
theorem dX5_burst_145 : decode cX5_burst 145 = .ok (.invokevirtual 151, 3) := k_182 zcX5_burst rfl rfl rfl
theorem dX5_burst_148 : decode cX5_burst 148 = .ok (.aload 5, 2) := k_25 zcX5_burst rfl rfl rfl
theorem dX5_burst_150 : decode cX5_burst 150 = .ok (.getfield 154, 3) := k_180 zcX5_burst rfl rfl rfl
theorem dX5_burst_153 : decode cX5_burst 153 = .ok (.ireturn, 1) := k_172 zcX5_burst rfl rfl
theorem dX5_leave_0 : decode cX5_leave 0 = .ok (.aload_n 0, 1) := k_42 zcX5_leave rfl rfl
theorem dX5_leave_1 : decode cX5_leave 1 = .ok (.iload_n 1, 1) := k_27 zcX5_leave rfl rfl
theorem dX5_leave_2 : decode cX5_leave 2 = .ok (.invokevirtual 123, 3) := k_182 zcX5_leave rfl rfl rfl
theorem dX5_leave_5 : decode cX5_leave 5 = .ok (.astore_n 3, 1) := k_78 zcX5_leave rfl rfl
theorem dX5_leave_6 : decode cX5_leave 6 = .ok (.aload_n 3, 1) := k_45 zcX5_leave rfl rfl
theorem dX5_leave_7 : decode cX5_leave 7 = .ok (.ifnull 15, 3) := k_198 zcX5_leave rfl rfl rfl
theorem dX5_leave_10 : decode cX5_leave 10 = .ok (.iload_n 2, 1) := k_28 zcX5_leave rfl rfl
theorem dX5_leave_11 : decode cX5_leave 11 = .ok (.iconst 0, 1) := k_3 zcX5_leave rfl rfl
theorem dX5_leave_12 : decode cX5_leave 12 = .ok (.aload_n 3, 1) := k_45 zcX5_leave rfl rfl
theorem dX5_leave_13 : decode cX5_leave 13 = .ok (.getfield 154, 3) := k_180 zcX5_leave rfl rfl rfl
theorem dX5_leave_16 : decode cX5_leave 16 = .ok (.invokestatic 59, 3) := k_184 zcX5_leave rfl rfl rfl
theorem dX5_leave_19 : decode cX5_leave 19 = .ok (.ifCond .ne 5, 3) := k_154 zcX5_leave rfl rfl rfl
theorem dX5_leave_22 : decode cX5_leave 22 = .ok (.iconst (-1), 1) := k_2 zcX5_leave rfl rfl
theorem dX5_leave_23 : decode cX5_leave 23 = .ok (.ireturn, 1) := k_172 zcX5_leave rfl rfl
theorem dX5_leave_24 : decode cX5_leave 24 = .ok (.iconst 0, 1) := k_3 zcX5_leave rfl rfl
theorem dX5_leave_25 : decode cX5_leave 25 = .ok (.istore 4, 2) := k_54 zcX5_leave rfl rfl rfl
theorem dX5_leave_27 : decode cX5_leave 27 = .ok (.iload 4, 2) := k_21 zcX5_leave rfl rfl rfl
theorem dX5_leave_29 : decode cX5_leave 29 = .ok (.iload_n 2, 1) := k_28 zcX5_leave rfl rfl
theorem dX5_leave_30 : decode cX5_leave 30 = .ok (.if_icmp .ge 14, 3) := k_162 zcX5_leave rfl rfl rfl
theorem dX5_leave_33 : decode cX5_leave 33 = .ok (.aload_n 0, 1) := k_42 zcX5_leave rfl rfl
theorem dX5_leave_34 : decode cX5_leave 34 = .ok (.aload_n 3, 1) := k_45 zcX5_leave rfl rfl
theorem dX5_leave_35 : decode cX5_leave 35 = .ok (.invokevirtual 163, 3) := k_182 zcX5_leave rfl rfl rfl
theorem dX5_leave_38 : decode cX5_leave 38 = .ok (.iinc 4 1, 3) := k_132 zcX5_leave rfl rfl rfl rfl
theorem dX5_leave_41 : decode cX5_leave 41 = .ok (.goto (-14), 3) := k_167 zcX5_leave rfl rfl rfl
theorem dX5_leave_44 : decode cX5_leave 44 = .ok (.aload_n 3, 1) := k_45 zcX5_leave rfl rfl
theorem dX5_leave_45 : decode cX5_leave 45 = .ok (.getfield 154, 3) := k_180 zcX5_leave rfl rfl rfl
theorem dX5_leave_48 : decode cX5_leave 48 = .ok (.ireturn, 1) := k_172 zcX5_leave rfl rfl
theorem dX5_until_0 : decode cX5_until 0 = .ok (.aload_n 0, 1) := k_42 zcX5_until rfl rfl
theorem dX5_until_1 : decode cX5_until 1 = .ok (.iload_n 1, 1) := k_27 zcX5_until rfl rfl
theorem dX5_until_2 : decode cX5_until 2 = .ok (.invokevirtual 123, 3) := k_182 zcX5_until rfl rfl rfl
theorem dX5_until_5 : decode cX5_until 5 = .ok (.astore_n 3, 1) := k_78 zcX5_until rfl rfl
theorem dX5_until_6 : decode cX5_until 6 = .ok (.aload_n 3, 1) := k_45 zcX5_until rfl rfl
theorem dX5_until_7 : decode cX5_until 7 = .ok (.ifnonnull 5, 3) := k_199 zcX5_until rfl rfl rfl
theorem dX5_until_10 : decode cX5_until 10 = .ok (.iconst (-1), 1) := k_2 zcX5_until rfl rfl
theorem dX5_until_11 : decode cX5_until 11 = .ok (.ireturn, 1) := k_172 zcX5_until rfl rfl
theorem dX5_until_12 : decode cX5_until 12 = .ok (.aload_n 3, 1) := k_45 zcX5_until rfl rfl
theorem dX5_until_13 : decode cX5_until 13 = .ok (.iload_n 2, 1) := k_28 zcX5_until rfl rfl
theorem dX5_until_14 : decode cX5_until 14 = .ok (.i2l, 1) := k_133 zcX5_until rfl rfl
theorem dX5_until_15 : decode cX5_until 15 = .ok (.invokevirtual 167, 3) := k_182 zcX5_until rfl rfl rfl
theorem dX5_until_18 : decode cX5_until 18 = .ok (.istore 4, 2) := k_54 zcX5_until rfl rfl rfl
theorem dX5_until_20 : decode cX5_until 20 = .ok (.iconst 0, 1) := k_3 zcX5_until rfl rfl
theorem dX5_until_21 : decode cX5_until 21 = .ok (.istore 5, 2) := k_54 zcX5_until rfl rfl rfl
theorem dX5_until_23 : decode cX5_until 23 = .ok (.iload 5, 2) := k_21 zcX5_until rfl rfl rfl
theorem dX5_until_25 : decode cX5_until 25 = .ok (.iload 4, 2) := k_21 zcX5_until rfl rfl rfl
theorem dX5_until_27 : decode cX5_until 27 = .ok (.if_icmp .ge 14, 3) := k_162 zcX5_until rfl rfl rfl
theorem dX5_until_30 : decode cX5_until 30 = .ok (.aload_n 0, 1) := k_42 zcX5_until rfl rfl
theorem dX5_until_31 : decode cX5_until 31 = .ok (.aload_n 3, 1) := k_45 zcX5_until rfl rfl
theorem dX5_until_32 : decode cX5_until 32 = .ok (.invokevirtual 163, 3) := k_182 zcX5_until rfl rfl rfl
theorem dX5_until_35 : decode cX5_until 35 = .ok (.iinc 5 1, 3) := k_132 zcX5_until rfl rfl rfl rfl
theorem dX5_until_38 : decode cX5_until 38 = .ok (.goto (-15), 3) := k_167 zcX5_until rfl rfl rfl
theorem dX5_until_41 : decode cX5_until 41 = .ok (.iload 4, 2) := k_21 zcX5_until rfl rfl rfl
theorem dX5_until_43 : decode cX5_until 43 = .ok (.ireturn, 1) := k_172 zcX5_until rfl rfl
theorem dX5_take_0 : decode cX5_take 0 = .ok (.aload_n 0, 1) := k_42 zcX5_take rfl rfl
theorem dX5_take_1 : decode cX5_take 1 = .ok (.iload_n 1, 1) := k_27 zcX5_take rfl rfl
theorem dX5_take_2 : decode cX5_take 2 = .ok (.iload_n 2, 1) := k_28 zcX5_take rfl rfl
theorem dX5_take_3 : decode cX5_take 3 = .ok (.invokevirtual 171, 3) := k_182 zcX5_take rfl rfl rfl
theorem dX5_take_6 : decode cX5_take 6 = .ok (.astore_n 3, 1) := k_78 zcX5_take rfl rfl
theorem dX5_take_7 : decode cX5_take 7 = .ok (.aload_n 3, 1) := k_45 zcX5_take rfl rfl
theorem dX5_take_8 : decode cX5_take 8 = .ok (.ifnonnull 6, 3) := k_199 zcX5_take rfl rfl rfl
theorem dX5_take_11 : decode cX5_take 11 = .ok (.ldc 175, 2) := k_18 zcX5_take rfl rfl rfl
theorem dX5_take_13 : decode cX5_take 13 = .ok (.ireturn, 1) := k_172 zcX5_take rfl rfl
theorem dX5_take_14 : decode cX5_take 14 = .ok (.aload_n 3, 1) := k_45 zcX5_take rfl rfl
theorem dX5_take_15 : decode cX5_take 15 = .ok (.getfield 176, 3) := k_180 zcX5_take rfl rfl rfl
theorem dX5_take_18 : decode cX5_take 18 = .ok (.iload_n 2, 1) := k_28 zcX5_take rfl rfl
theorem dX5_take_19 : decode cX5_take 19 = .ok (.iaload, 1) := k_46 zcX5_take rfl rfl
theorem dX5_take_20 : decode cX5_take 20 = .ok (.istore 4, 2) := k_54 zcX5_take rfl rfl rfl
theorem dX5_take_22 : decode cX5_take 22 = .ok (.aload_n 3, 1) := k_45 zcX5_take rfl rfl
theorem dX5_take_23 : decode cX5_take 23 = .ok (.iload_n 2, 1) := k_28 zcX5_take rfl rfl
theorem dX5_take_24 : decode cX5_take 24 = .ok (.invokevirtual 179, 3) := k_182 zcX5_take rfl rfl rfl
theorem dX5_take_27 : decode cX5_take 27 = .ok (.aload_n 0, 1) := k_42 zcX5_take rfl rfl
theorem dX5_take_28 : decode cX5_take 28 = .ok (.aload_n 3, 1) := k_45 zcX5_take rfl rfl
theorem dX5_take_29 : decode cX5_take 29 = .ok (.invokevirtual 182, 3) := k_182 zcX5_take rfl rfl rfl
theorem dX5_take_32 : decode cX5_take 32 = .ok (.iload 4, 2) := k_21 zcX5_take rfl rfl rfl
theorem dX5_take_34 : decode cX5_take 34 = .ok (.ireturn, 1) := k_172 zcX5_take rfl rfl
theorem dX5_alter_0 : decode cX5_alter 0 = .ok (.aload_n 0, 1) := k_42 zcX5_alter rfl rfl
theorem dX5_alter_1 : decode cX5_alter 1 = .ok (.iload_n 1, 1) := k_27 zcX5_alter rfl rfl
theorem dX5_alter_2 : decode cX5_alter 2 = .ok (.iload_n 2, 1) := k_28 zcX5_alter rfl rfl
theorem dX5_alter_3 : decode cX5_alter 3 = .ok (.invokevirtual 171, 3) := k_182 zcX5_alter rfl rfl rfl
theorem dX5_alter_6 : decode cX5_alter 6 = .ok (.astore 4, 2) := k_58 zcX5_alter rfl rfl rfl
theorem dX5_alter_8 : decode cX5_alter 8 = .ok (.aload 4, 2) := k_25 zcX5_alter rfl rfl rfl
theorem dX5_alter_10 : decode cX5_alter 10 = .ok (.ifnull 10, 3) := k_198 zcX5_alter rfl rfl rfl
theorem dX5_alter_13 : decode cX5_alter 13 = .ok (.iload_n 3, 1) := k_29 zcX5_alter rfl rfl
theorem dX5_alter_14 : decode cX5_alter 14 = .ok (.invokestatic 130, 3) := k_184 zcX5_alter rfl rfl rfl
theorem dX5_alter_17 : decode cX5_alter 17 = .ok (.ifCond .ne 5, 3) := k_154 zcX5_alter rfl rfl rfl
theorem dX5_alter_20 : decode cX5_alter 20 = .ok (.iconst 0, 1) := k_3 zcX5_alter rfl rfl
theorem dX5_alter_21 : decode cX5_alter 21 = .ok (.ireturn, 1) := k_172 zcX5_alter rfl rfl
theorem dX5_alter_22 : decode cX5_alter 22 = .ok (.aload 4, 2) := k_25 zcX5_alter rfl rfl rfl
theorem dX5_alter_24 : decode cX5_alter 24 = .ok (.getfield 176, 3) := k_180 zcX5_alter rfl rfl rfl
theorem dX5_alter_27 : decode cX5_alter 27 = .ok (.iload_n 2, 1) := k_28 zcX5_alter rfl rfl
theorem dX5_alter_28 : decode cX5_alter 28 = .ok (.iload_n 3, 1) := k_29 zcX5_alter rfl rfl
theorem dX5_alter_29 : decode cX5_alter 29 = .ok (.iastore, 1) := k_79 zcX5_alter rfl rfl
theorem dX5_alter_30 : decode cX5_alter 30 = .ok (.aload_n 0, 1) := k_42 zcX5_alter rfl rfl
theorem dX5_alter_31 : decode cX5_alter 31 = .ok (.aload 4, 2) := k_25 zcX5_alter rfl rfl rfl
theorem dX5_alter_33 : decode cX5_alter 33 = .ok (.invokevirtual 182, 3) := k_182 zcX5_alter rfl rfl rfl
theorem dX5_alter_36 : decode cX5_alter 36 = .ok (.iconst 1, 1) := k_4 zcX5_alter rfl rfl
theorem dX5_alter_37 : decode cX5_alter 37 = .ok (.ireturn, 1) := k_172 zcX5_alter rfl rfl
theorem dX5_place_0 : decode cX5_place 0 = .ok (.aload_n 1, 1) := k_43 zcX5_place rfl rfl
theorem dX5_place_1 : decode cX5_place 1 = .ok (.iload_n 2, 1) := k_28 zcX5_place rfl rfl
theorem dX5_place_2 : decode cX5_place 2 = .ok (.i2l, 1) := k_133 zcX5_place rfl rfl
theorem dX5_place_3 : decode cX5_place 3 = .ok (.invokevirtual 167, 3) := k_182 zcX5_place rfl rfl rfl
theorem dX5_place_6 : decode cX5_place 6 = .ok (.istore 4, 2) := k_54 zcX5_place rfl rfl rfl
theorem dX5_place_8 : decode cX5_place 8 = .ok (.iload 4, 2) := k_21 zcX5_place rfl rfl rfl
theorem dX5_place_10 : decode cX5_place 10 = .ok (.aload_n 1, 1) := k_43 zcX5_place rfl rfl
theorem dX5_place_11 : decode cX5_place 11 = .ok (.getfield 154, 3) := k_180 zcX5_place rfl rfl rfl
theorem dX5_place_14 : decode cX5_place 14 = .ok (.if_icmp .ne 7, 3) := k_160 zcX5_place rfl rfl rfl
theorem dX5_place_17 : decode cX5_place 17 = .ok (.iconst 1, 1) := k_4 zcX5_place rfl rfl
theorem dX5_place_18 : decode cX5_place 18 = .ok (.goto 4, 3) := k_167 zcX5_place rfl rfl rfl
theorem dX5_place_21 : decode cX5_place 21 = .ok (.iconst 0, 1) := k_3 zcX5_place rfl rfl
theorem dX5_place_22 : decode cX5_place 22 = .ok (.istore 5, 2) := k_54 zcX5_place rfl rfl rfl
theorem dX5_place_24 : decode cX5_place 24 = .ok (.aload_n 1, 1) := k_43 zcX5_place rfl rfl
theorem dX5_place_25 : decode cX5_place 25 = .ok (.iload 4, 2) := k_21 zcX5_place rfl rfl rfl
theorem dX5_place_27 : decode cX5_place 27 = .ok (.iload_n 2, 1) := k_28 zcX5_place rfl rfl
theorem dX5_place_28 : decode cX5_place 28 = .ok (.iload_n 3, 1) := k_29 zcX5_place rfl rfl
theorem dX5_place_29 : decode cX5_place 29 = .ok (.invokevirtual 185, 3) := k_182 zcX5_place rfl rfl rfl
theorem dX5_place_32 : decode cX5_place 32 = .ok (.iload 5, 2) := k_21 zcX5_place rfl rfl rfl
theorem dX5_place_34 : decode cX5_place 34 = .ok (.ifCond .eq 18, 3) := k_153 zcX5_place rfl rfl rfl
theorem dX5_place_37 : decode cX5_place 37 = .ok (.aload_n 1, 1) := k_43 zcX5_place rfl rfl
theorem dX5_place_38 : decode cX5_place 38 = .ok (.getfield 189, 3) := k_180 zcX5_place rfl rfl rfl
theorem dX5_place_41 : decode cX5_place 41 = .ok (.invokevirtual 192, 3) := k_182 zcX5_place rfl rfl rfl
theorem dX5_place_44 : decode cX5_place 44 = .ok (.aload_n 0, 1) := k_42 zcX5_place rfl rfl
theorem dX5_place_45 : decode cX5_place 45 = .ok (.aload_n 1, 1) := k_43 zcX5_place rfl rfl
theorem dX5_place_46 : decode cX5_place 46 = .ok (.invokevirtual 195, 3) := k_182 zcX5_place rfl rfl rfl
theorem dX5_place_49 : decode cX5_place 49 = .ok (.goto 8, 3) := k_167 zcX5_place rfl rfl rfl
theorem dX5_place_52 : decode cX5_place 52 = .ok (.aload_n 0, 1) := k_42 zcX5_place rfl rfl
theorem dX5_place_53 : decode cX5_place 53 = .ok (.aload_n 1, 1) := k_43 zcX5_place rfl rfl
theorem dX5_place_54 : decode cX5_place 54 = .ok (.invokevirtual 182, 3) := k_182 zcX5_place rfl rfl rfl
theorem dX5_place_57 : decode cX5_place 57 = .ok (.aload_n 1, 1) := k_43 zcX5_place rfl rfl
theorem dX5_place_58 : decode cX5_place 58 = .ok (.getfield 154, 3) := k_180 zcX5_place rfl rfl rfl
theorem dX5_place_61 : decode cX5_place 61 = .ok (.istore 6, 2) := k_54 zcX5_place rfl rfl rfl
theorem dX5_place_63 : decode cX5_place 63 = .ok (.iload 6, 2) := k_21 zcX5_place rfl rfl rfl
theorem dX5_place_65 : decode cX5_place 65 = .ok (.ifCond .le 35, 3) := k_158 zcX5_place rfl rfl rfl
theorem dX5_place_68 : decode cX5_place 68 = .ok (.aload_n 1, 1) := k_43 zcX5_place rfl rfl
theorem dX5_place_69 : decode cX5_place 69 = .ok (.aload_n 1, 1) := k_43 zcX5_place rfl rfl
theorem dX5_place_70 : decode cX5_place 70 = .ok (.getfield 154, 3) := k_180 zcX5_place rfl rfl rfl
theorem dX5_place_73 : decode cX5_place 73 = .ok (.aload_n 1, 1) := k_43 zcX5_place rfl rfl
theorem dX5_place_74 : decode cX5_place 74 = .ok (.getfield 198, 3) := k_180 zcX5_place rfl rfl rfl
theorem dX5_place_77 : decode cX5_place 77 = .ok (.iconst 0, 1) := k_3 zcX5_place rfl rfl
theorem dX5_place_78 : decode cX5_place 78 = .ok (.iaload, 1) := k_46 zcX5_place rfl rfl
theorem dX5_place_79 : decode cX5_place 79 = .ok (.aload_n 1, 1) := k_43 zcX5_place rfl rfl
theorem dX5_place_80 : decode cX5_place 80 = .ok (.getfield 157, 3) := k_180 zcX5_place rfl rfl rfl
theorem dX5_place_83 : decode cX5_place 83 = .ok (.invokevirtual 201, 3) := k_182 zcX5_place rfl rfl rfl
theorem dX5_place_86 : decode cX5_place 86 = .ok (.ifCond .eq 14, 3) := k_153 zcX5_place rfl rfl rfl
theorem dX5_place_89 : decode cX5_place 89 = .ok (.aload_n 0, 1) := k_42 zcX5_place rfl rfl
theorem dX5_place_90 : decode cX5_place 90 = .ok (.aload_n 1, 1) := k_43 zcX5_place rfl rfl
theorem dX5_place_91 : decode cX5_place 91 = .ok (.invokevirtual 163, 3) := k_182 zcX5_place rfl rfl rfl
theorem dX5_place_94 : decode cX5_place 94 = .ok (.iinc 6 (-1), 3) := k_132 zcX5_place rfl rfl rfl rfl
theorem dX5_place_97 : decode cX5_place 97 = .ok (.goto (-34), 3) := k_167 zcX5_place rfl rfl rfl
theorem dX5_place_100 : decode cX5_place 100 = .ok (.return_, 1) := k_177 zcX5_place rfl rfl
theorem dX5_dropOldest_0 : decode cX5_dropOldest 0 = .ok (.aload_n 1, 1) := k_43 zcX5_dropOldest rfl rfl
theorem dX5_dropOldest_1 : decode cX5_dropOldest 1 = .ok (.iconst 0, 1) := k_3 zcX5_dropOldest rfl rfl
theorem dX5_dropOldest_2 : decode cX5_dropOldest 2 = .ok (.invokevirtual 179, 3) := k_182 zcX5_dropOldest rfl rfl rfl
theorem dX5_dropOldest_5 : decode cX5_dropOldest 5 = .ok (.aload_n 1, 1) := k_43 zcX5_dropOldest rfl rfl
theorem dX5_dropOldest_6 : decode cX5_dropOldest 6 = .ok (.dup, 1) := k_89 zcX5_dropOldest rfl rfl
theorem dX5_dropOldest_7 : decode cX5_dropOldest 7 = .ok (.getfield 204, 3) := k_180 zcX5_dropOldest rfl rfl rfl
theorem dX5_dropOldest_10 : decode cX5_dropOldest 10 = .ok (.iconst 1, 1) := k_4 zcX5_dropOldest rfl rfl
theorem dX5_dropOldest_11 : decode cX5_dropOldest 11 = .ok (.iadd, 1) := k_96 zcX5_dropOldest rfl rfl
theorem dX5_dropOldest_12 : decode cX5_dropOldest 12 = .ok (.putfield 204, 3) := k_181 zcX5_dropOldest rfl rfl rfl
theorem dX5_dropOldest_15 : decode cX5_dropOldest 15 = .ok (.aload_n 1, 1) := k_43 zcX5_dropOldest rfl rfl
theorem dX5_dropOldest_16 : decode cX5_dropOldest 16 = .ok (.getfield 189, 3) := k_180 zcX5_dropOldest rfl rfl rfl
theorem dX5_dropOldest_19 : decode cX5_dropOldest 19 = .ok (.invokevirtual 207, 3) := k_182 zcX5_dropOldest rfl rfl rfl
theorem dX5_dropOldest_22 : decode cX5_dropOldest 22 = .ok (.aload_n 0, 1) := k_42 zcX5_dropOldest rfl rfl
theorem dX5_dropOldest_23 : decode cX5_dropOldest 23 = .ok (.aload_n 1, 1) := k_43 zcX5_dropOldest rfl rfl
theorem dX5_dropOldest_24 : decode cX5_dropOldest 24 = .ok (.invokevirtual 195, 3) := k_182 zcX5_dropOldest rfl rfl rfl
theorem dX5_dropOldest_27 : decode cX5_dropOldest 27 = .ok (.return_, 1) := k_177 zcX5_dropOldest rfl rfl
theorem dX5_layAnew_0 : decode cX5_layAnew 0 = .ok (.aload_n 1, 1) := k_43 zcX5_layAnew rfl rfl
theorem dX5_layAnew_1 : decode cX5_layAnew 1 = .ok (.getfield 189, 3) := k_180 zcX5_layAnew rfl rfl rfl
theorem dX5_layAnew_4 : decode cX5_layAnew 4 = .ok (.aload_n 1, 1) := k_43 zcX5_layAnew rfl rfl
theorem dX5_layAnew_5 : decode cX5_layAnew 5 = .ok (.getfield 154, 3) := k_180 zcX5_layAnew rfl rfl rfl
theorem dX5_layAnew_8 : decode cX5_layAnew 8 = .ok (.invokevirtual 210, 3) := k_182 zcX5_layAnew rfl rfl rfl
theorem dX5_layAnew_11 : decode cX5_layAnew 11 = .ok (.aload_n 0, 1) := k_42 zcX5_layAnew rfl rfl
theorem dX5_layAnew_12 : decode cX5_layAnew 12 = .ok (.aload_n 1, 1) := k_43 zcX5_layAnew rfl rfl
theorem dX5_layAnew_13 : decode cX5_layAnew 13 = .ok (.invokevirtual 195, 3) := k_182 zcX5_layAnew rfl rfl rfl
theorem dX5_layAnew_16 : decode cX5_layAnew 16 = .ok (.return_, 1) := k_177 zcX5_layAnew rfl rfl
theorem dX5_give_0 : decode cX5_give 0 = .ok (.aload_n 0, 1) := k_42 zcX5_give rfl rfl
theorem dX5_give_1 : decode cX5_give 1 = .ok (.getfield 19, 3) := k_180 zcX5_give rfl rfl rfl
theorem dX5_give_4 : decode cX5_give 4 = .ok (.aload_n 1, 1) := k_43 zcX5_give rfl rfl
theorem dX5_give_5 : decode cX5_give 5 = .ok (.getfield 212, 3) := k_180 zcX5_give rfl rfl rfl
theorem dX5_give_8 : decode cX5_give 8 = .ok (.aaload, 1) := k_50 zcX5_give rfl rfl
theorem dX5_give_9 : decode cX5_give 9 = .ok (.astore_n 3, 1) := k_78 zcX5_give rfl rfl
theorem dX5_give_10 : decode cX5_give 10 = .ok (.aload_n 0, 1) := k_42 zcX5_give rfl rfl
theorem dX5_give_11 : decode cX5_give 11 = .ok (.aload_n 3, 1) := k_45 zcX5_give rfl rfl
theorem dX5_give_12 : decode cX5_give 12 = .ok (.getfield 215, 3) := k_180 zcX5_give rfl rfl rfl
theorem dX5_give_15 : decode cX5_give 15 = .ok (.invokevirtual 123, 3) := k_182 zcX5_give rfl rfl rfl
theorem dX5_give_18 : decode cX5_give 18 = .ok (.astore 4, 2) := k_58 zcX5_give rfl rfl rfl
theorem dX5_give_20 : decode cX5_give 20 = .ok (.aload_n 1, 1) := k_43 zcX5_give rfl rfl
theorem dX5_give_21 : decode cX5_give 21 = .ok (.getfield 154, 3) := k_180 zcX5_give rfl rfl rfl
theorem dX5_give_24 : decode cX5_give 24 = .ok (.iconst 1, 1) := k_4 zcX5_give rfl rfl
theorem dX5_give_25 : decode cX5_give 25 = .ok (.isub, 1) := k_100 zcX5_give rfl rfl
theorem dX5_give_26 : decode cX5_give 26 = .ok (.istore 5, 2) := k_54 zcX5_give rfl rfl rfl
theorem dX5_give_28 : decode cX5_give 28 = .ok (.aload 4, 2) := k_25 zcX5_give rfl rfl rfl
theorem dX5_give_30 : decode cX5_give 30 = .ok (.ifnull 32, 3) := k_198 zcX5_give rfl rfl rfl
theorem dX5_give_33 : decode cX5_give 33 = .ok (.iload 5, 2) := k_21 zcX5_give rfl rfl rfl
theorem dX5_give_35 : decode cX5_give 35 = .ok (.ifCond .lt 27, 3) := k_155 zcX5_give rfl rfl rfl
theorem dX5_give_38 : decode cX5_give 38 = .ok (.iload_n 2, 1) := k_28 zcX5_give rfl rfl
theorem dX5_give_39 : decode cX5_give 39 = .ok (.aload_n 1, 1) := k_43 zcX5_give rfl rfl
theorem dX5_give_40 : decode cX5_give 40 = .ok (.getfield 198, 3) := k_180 zcX5_give rfl rfl rfl
theorem dX5_give_43 : decode cX5_give 43 = .ok (.iload 5, 2) := k_21 zcX5_give rfl rfl rfl
theorem dX5_give_45 : decode cX5_give 45 = .ok (.iaload, 1) := k_46 zcX5_give rfl rfl
theorem dX5_give_46 : decode cX5_give 46 = .ok (.isub, 1) := k_100 zcX5_give rfl rfl
theorem dX5_give_47 : decode cX5_give 47 = .ok (.aload_n 3, 1) := k_45 zcX5_give rfl rfl
theorem dX5_give_48 : decode cX5_give 48 = .ok (.getfield 218, 3) := k_180 zcX5_give rfl rfl rfl
theorem dX5_give_51 : decode cX5_give 51 = .ok (.if_icmp .le 11, 3) := k_164 zcX5_give rfl rfl rfl
theorem dX5_give_54 : decode cX5_give 54 = .ok (.aload 4, 2) := k_25 zcX5_give rfl rfl rfl
theorem dX5_give_56 : decode cX5_give 56 = .ok (.invokevirtual 139, 3) := k_182 zcX5_give rfl rfl rfl
theorem dX5_give_59 : decode cX5_give 59 = .ok (.ifCond .eq 4, 3) := k_153 zcX5_give rfl rfl rfl
theorem dX5_give_62 : decode cX5_give 62 = .ok (.return_, 1) := k_177 zcX5_give rfl rfl
theorem dX5_give_63 : decode cX5_give 63 = .ok (.iload 5, 2) := k_21 zcX5_give rfl rfl rfl
theorem dX5_give_65 : decode cX5_give 65 = .ok (.istore 6, 2) := k_54 zcX5_give rfl rfl rfl
theorem dX5_give_67 : decode cX5_give 67 = .ok (.iload 6, 2) := k_21 zcX5_give rfl rfl rfl
theorem dX5_give_69 : decode cX5_give 69 = .ok (.ifCond .le 22, 3) := k_158 zcX5_give rfl rfl rfl
theorem dX5_give_72 : decode cX5_give 72 = .ok (.aload_n 1, 1) := k_43 zcX5_give rfl rfl
theorem dX5_give_73 : decode cX5_give 73 = .ok (.iload 6, 2) := k_21 zcX5_give rfl rfl rfl
theorem dX5_give_75 : decode cX5_give 75 = .ok (.aload_n 3, 1) := k_45 zcX5_give rfl rfl
theorem dX5_give_76 : decode cX5_give 76 = .ok (.getfield 218, 3) := k_180 zcX5_give rfl rfl rfl
theorem dX5_give_79 : decode cX5_give 79 = .ok (.invokevirtual 221, 3) := k_182 zcX5_give rfl rfl rfl
theorem dX5_give_82 : decode cX5_give 82 = .ok (.ifCond .ne 9, 3) := k_154 zcX5_give rfl rfl rfl
theorem dX5_give_85 : decode cX5_give 85 = .ok (.iinc 6 (-1), 3) := k_132 zcX5_give rfl rfl rfl rfl
theorem dX5_give_88 : decode cX5_give 88 = .ok (.goto (-21), 3) := k_167 zcX5_give rfl rfl rfl
theorem dX5_give_91 : decode cX5_give 91 = .ok (.aload_n 0, 1) := k_42 zcX5_give rfl rfl
theorem dX5_give_92 : decode cX5_give 92 = .ok (.aload_n 1, 1) := k_43 zcX5_give rfl rfl
theorem dX5_give_93 : decode cX5_give 93 = .ok (.iload 6, 2) := k_21 zcX5_give rfl rfl rfl
theorem dX5_give_95 : decode cX5_give 95 = .ok (.aload_n 1, 1) := k_43 zcX5_give rfl rfl
theorem dX5_give_96 : decode cX5_give 96 = .ok (.getfield 154, 3) := k_180 zcX5_give rfl rfl rfl
theorem dX5_give_99 : decode cX5_give 99 = .ok (.aload_n 3, 1) := k_45 zcX5_give rfl rfl
theorem dX5_give_100 : decode cX5_give 100 = .ok (.getfield 224, 3) := k_180 zcX5_give rfl rfl rfl
theorem dX5_give_103 : decode cX5_give 103 = .ok (.invokevirtual 227, 3) := k_182 zcX5_give rfl rfl rfl
theorem dX5_give_106 : decode cX5_give 106 = .ok (.istore 7, 2) := k_54 zcX5_give rfl rfl rfl
theorem dX5_give_108 : decode cX5_give 108 = .ok (.iload 7, 2) := k_21 zcX5_give rfl rfl rfl
theorem dX5_give_110 : decode cX5_give 110 = .ok (.ldc 175, 2) := k_18 zcX5_give rfl rfl rfl
theorem dX5_give_112 : decode cX5_give 112 = .ok (.if_icmp .ne 4, 3) := k_160 zcX5_give rfl rfl rfl
theorem dX5_give_115 : decode cX5_give 115 = .ok (.return_, 1) := k_177 zcX5_give rfl rfl
theorem dX5_give_116 : decode cX5_give 116 = .ok (.aload_n 1, 1) := k_43 zcX5_give rfl rfl
theorem dX5_give_117 : decode cX5_give 117 = .ok (.getfield 198, 3) := k_180 zcX5_give rfl rfl rfl
theorem dX5_give_120 : decode cX5_give 120 = .ok (.iload 5, 2) := k_21 zcX5_give rfl rfl rfl
theorem dX5_give_122 : decode cX5_give 122 = .ok (.iaload, 1) := k_46 zcX5_give rfl rfl
theorem dX5_give_123 : decode cX5_give 123 = .ok (.istore 8, 2) := k_54 zcX5_give rfl rfl rfl
theorem dX5_give_125 : decode cX5_give 125 = .ok (.aload 4, 2) := k_25 zcX5_give rfl rfl rfl
theorem dX5_give_127 : decode cX5_give 127 = .ok (.iload 8, 2) := k_21 zcX5_give rfl rfl rfl
theorem dX5_give_129 : decode cX5_give 129 = .ok (.invokevirtual 133, 3) := k_182 zcX5_give rfl rfl rfl
theorem dX5_give_132 : decode cX5_give 132 = .ok (.ifCond .eq 15, 3) := k_153 zcX5_give rfl rfl rfl
theorem dX5_give_135 : decode cX5_give 135 = .ok (.aload 4, 2) := k_25 zcX5_give rfl rfl rfl
theorem dX5_give_137 : decode cX5_give 137 = .ok (.dup, 1) := k_89 zcX5_give rfl rfl
theorem dX5_give_138 : decode cX5_give 138 = .ok (.getfield 136, 3) := k_180 zcX5_give rfl rfl rfl
theorem dX5_give_141 : decode cX5_give 141 = .ok (.iconst 1, 1) := k_4 zcX5_give rfl rfl
theorem dX5_give_142 : decode cX5_give 142 = .ok (.iadd, 1) := k_96 zcX5_give rfl rfl
theorem dX5_give_143 : decode cX5_give 143 = .ok (.putfield 136, 3) := k_181 zcX5_give rfl rfl rfl
theorem dX5_give_146 : decode cX5_give 146 = .ok (.return_, 1) := k_177 zcX5_give rfl rfl
theorem dX5_give_147 : decode cX5_give 147 = .ok (.aload_n 3, 1) := k_45 zcX5_give rfl rfl
theorem dX5_give_148 : decode cX5_give 148 = .ok (.dup, 1) := k_89 zcX5_give rfl rfl
theorem dX5_give_149 : decode cX5_give 149 = .ok (.getfield 231, 3) := k_180 zcX5_give rfl rfl rfl
theorem dX5_give_152 : decode cX5_give 152 = .ok (.iconst 1, 1) := k_4 zcX5_give rfl rfl
theorem dX5_give_153 : decode cX5_give 153 = .ok (.iadd, 1) := k_96 zcX5_give rfl rfl
theorem dX5_give_154 : decode cX5_give 154 = .ok (.putfield 231, 3) := k_181 zcX5_give rfl rfl rfl
theorem dX5_give_157 : decode cX5_give 157 = .ok (.aload_n 0, 1) := k_42 zcX5_give rfl rfl
theorem dX5_give_158 : decode cX5_give 158 = .ok (.aload 4, 2) := k_25 zcX5_give rfl rfl rfl
theorem dX5_give_160 : decode cX5_give 160 = .ok (.iload 8, 2) := k_21 zcX5_give rfl rfl rfl
theorem dX5_give_162 : decode cX5_give 162 = .ok (.sipush (-1000), 3) := k_17 zcX5_give rfl rfl rfl
theorem dX5_give_165 : decode cX5_give 165 = .ok (.sipush 1000, 3) := k_17 zcX5_give rfl rfl rfl
theorem dX5_give_168 : decode cX5_give 168 = .ok (.iload 7, 2) := k_21 zcX5_give rfl rfl rfl
theorem dX5_give_170 : decode cX5_give 170 = .ok (.invokestatic 234, 3) := k_184 zcX5_give rfl rfl rfl
theorem dX5_give_173 : decode cX5_give 173 = .ok (.invokestatic 239, 3) := k_184 zcX5_give rfl rfl rfl
theorem dX5_give_176 : decode cX5_give 176 = .ok (.invokevirtual 147, 3) := k_182 zcX5_give rfl rfl rfl
theorem dX5_give_179 : decode cX5_give 179 = .ok (.return_, 1) := k_177 zcX5_give rfl rfl
theorem dX5_noteMost_0 : decode cX5_noteMost 0 = .ok (.iconst 0, 1) := k_3 zcX5_noteMost rfl rfl
theorem dX5_noteMost_1 : decode cX5_noteMost 1 = .ok (.istore_n 1, 1) := k_60 zcX5_noteMost rfl rfl
theorem dX5_noteMost_2 : decode cX5_noteMost 2 = .ok (.iload_n 1, 1) := k_27 zcX5_noteMost rfl rfl
theorem dX5_noteMost_3 : decode cX5_noteMost 3 = .ok (.iconst 4, 1) := k_7 zcX5_noteMost rfl rfl
theorem dX5_noteMost_4 : decode cX5_noteMost 4 = .ok (.if_icmp .ge 39, 3) := k_162 zcX5_noteMost rfl rfl rfl
theorem dX5_noteMost_7 : decode cX5_noteMost 7 = .ok (.aload_n 0, 1) := k_42 zcX5_noteMost rfl rfl
theorem dX5_noteMost_8 : decode cX5_noteMost 8 = .ok (.getfield 13, 3) := k_180 zcX5_noteMost rfl rfl rfl
theorem dX5_noteMost_11 : decode cX5_noteMost 11 = .ok (.iload_n 1, 1) := k_27 zcX5_noteMost rfl rfl
theorem dX5_noteMost_12 : decode cX5_noteMost 12 = .ok (.aaload, 1) := k_50 zcX5_noteMost rfl rfl
theorem dX5_noteMost_13 : decode cX5_noteMost 13 = .ok (.aload_n 0, 1) := k_42 zcX5_noteMost rfl rfl
theorem dX5_noteMost_14 : decode cX5_noteMost 14 = .ok (.getfield 13, 3) := k_180 zcX5_noteMost rfl rfl rfl
theorem dX5_noteMost_17 : decode cX5_noteMost 17 = .ok (.iload_n 1, 1) := k_27 zcX5_noteMost rfl rfl
theorem dX5_noteMost_18 : decode cX5_noteMost 18 = .ok (.aaload, 1) := k_50 zcX5_noteMost rfl rfl
theorem dX5_noteMost_19 : decode cX5_noteMost 19 = .ok (.getfield 242, 3) := k_180 zcX5_noteMost rfl rfl rfl
theorem dX5_noteMost_22 : decode cX5_noteMost 22 = .ok (.aload_n 0, 1) := k_42 zcX5_noteMost rfl rfl
theorem dX5_noteMost_23 : decode cX5_noteMost 23 = .ok (.getfield 13, 3) := k_180 zcX5_noteMost rfl rfl rfl
theorem dX5_noteMost_26 : decode cX5_noteMost 26 = .ok (.iload_n 1, 1) := k_27 zcX5_noteMost rfl rfl
theorem dX5_noteMost_27 : decode cX5_noteMost 27 = .ok (.aaload, 1) := k_50 zcX5_noteMost rfl rfl
theorem dX5_noteMost_28 : decode cX5_noteMost 28 = .ok (.getfield 154, 3) := k_180 zcX5_noteMost rfl rfl rfl
theorem dX5_noteMost_31 : decode cX5_noteMost 31 = .ok (.invokestatic 239, 3) := k_184 zcX5_noteMost rfl rfl rfl
theorem dX5_noteMost_34 : decode cX5_noteMost 34 = .ok (.putfield 242, 3) := k_181 zcX5_noteMost rfl rfl rfl
theorem dX5_noteMost_37 : decode cX5_noteMost 37 = .ok (.iinc 1 1, 3) := k_132 zcX5_noteMost rfl rfl rfl rfl
theorem dX5_noteMost_40 : decode cX5_noteMost 40 = .ok (.goto (-38), 3) := k_167 zcX5_noteMost rfl rfl rfl
theorem dX5_noteMost_43 : decode cX5_noteMost 43 = .ok (.return_, 1) := k_177 zcX5_noteMost rfl rfl
theorem dX5_event_0 : decode cX5_event 0 = .ok (.aload_n 0, 1) := k_42 zcX5_event rfl rfl
theorem dX5_event_1 : decode cX5_event 1 = .ok (.iload_n 1, 1) := k_27 zcX5_event rfl rfl
theorem dX5_event_2 : decode cX5_event 2 = .ok (.iload_n 2, 1) := k_28 zcX5_event rfl rfl
theorem dX5_event_3 : decode cX5_event 3 = .ok (.invokevirtual 171, 3) := k_182 zcX5_event rfl rfl rfl
theorem dX5_event_6 : decode cX5_event 6 = .ok (.astore 4, 2) := k_58 zcX5_event rfl rfl rfl
theorem dX5_event_8 : decode cX5_event 8 = .ok (.aload 4, 2) := k_25 zcX5_event rfl rfl rfl
theorem dX5_event_10 : decode cX5_event 10 = .ok (.ifnonnull 6, 3) := k_199 zcX5_event rfl rfl rfl
theorem dX5_event_13 : decode cX5_event 13 = .ok (.ldc 175, 2) := k_18 zcX5_event rfl rfl rfl
theorem dX5_event_15 : decode cX5_event 15 = .ok (.ireturn, 1) := k_172 zcX5_event rfl rfl
theorem dX5_event_16 : decode cX5_event 16 = .ok (.iload_n 3, 1) := k_29 zcX5_event rfl rfl
theorem dX5_event_17 : decode cX5_event 17 = .ok (.tableswitch 51 0 2 #[27, 35, 43], 27) := by decide +kernel
theorem dX5_event_44 : decode cX5_event 44 = .ok (.aload 4, 2) := k_25 zcX5_event rfl rfl rfl
theorem dX5_event_46 : decode cX5_event 46 = .ok (.getfield 198, 3) := k_180 zcX5_event rfl rfl rfl
theorem dX5_event_49 : decode cX5_event 49 = .ok (.iload_n 2, 1) := k_28 zcX5_event rfl rfl
theorem dX5_event_50 : decode cX5_event 50 = .ok (.iaload, 1) := k_46 zcX5_event rfl rfl
theorem dX5_event_51 : decode cX5_event 51 = .ok (.ireturn, 1) := k_172 zcX5_event rfl rfl
theorem dX5_event_52 : decode cX5_event 52 = .ok (.aload 4, 2) := k_25 zcX5_event rfl rfl rfl
theorem dX5_event_54 : decode cX5_event 54 = .ok (.getfield 176, 3) := k_180 zcX5_event rfl rfl rfl
theorem dX5_event_57 : decode cX5_event 57 = .ok (.iload_n 2, 1) := k_28 zcX5_event rfl rfl
theorem dX5_event_58 : decode cX5_event 58 = .ok (.iaload, 1) := k_46 zcX5_event rfl rfl
theorem dX5_event_59 : decode cX5_event 59 = .ok (.ireturn, 1) := k_172 zcX5_event rfl rfl
theorem dX5_event_60 : decode cX5_event 60 = .ok (.aload 4, 2) := k_25 zcX5_event rfl rfl rfl
theorem dX5_event_62 : decode cX5_event 62 = .ok (.getfield 245, 3) := k_180 zcX5_event rfl rfl rfl
theorem dX5_event_65 : decode cX5_event 65 = .ok (.iload_n 2, 1) := k_28 zcX5_event rfl rfl
theorem dX5_event_66 : decode cX5_event 66 = .ok (.iaload, 1) := k_46 zcX5_event rfl rfl
theorem dX5_event_67 : decode cX5_event 67 = .ok (.ireturn, 1) := k_172 zcX5_event rfl rfl
theorem dX5_event_68 : decode cX5_event 68 = .ok (.ldc 175, 2) := k_18 zcX5_event rfl rfl rfl
theorem dX5_event_70 : decode cX5_event 70 = .ok (.ireturn, 1) := k_172 zcX5_event rfl rfl
theorem dX5_total_0 : decode cX5_total 0 = .ok (.aload_n 0, 1) := k_42 zcX5_total rfl rfl
theorem dX5_total_1 : decode cX5_total 1 = .ok (.iload_n 1, 1) := k_27 zcX5_total rfl rfl
theorem dX5_total_2 : decode cX5_total 2 = .ok (.iload_n 2, 1) := k_28 zcX5_total rfl rfl
theorem dX5_total_3 : decode cX5_total 3 = .ok (.invokevirtual 248, 3) := k_182 zcX5_total rfl rfl rfl
theorem dX5_total_6 : decode cX5_total 6 = .ok (.astore_n 3, 1) := k_78 zcX5_total rfl rfl
theorem dX5_total_7 : decode cX5_total 7 = .ok (.aload_n 3, 1) := k_45 zcX5_total rfl rfl
theorem dX5_total_8 : decode cX5_total 8 = .ok (.ifnonnull 8, 3) := k_199 zcX5_total rfl rfl rfl
theorem dX5_total_11 : decode cX5_total 11 = .ok (.ldc 175, 2) := k_18 zcX5_total rfl rfl rfl
theorem dX5_total_13 : decode cX5_total 13 = .ok (.goto 14, 3) := k_167 zcX5_total rfl rfl rfl
theorem dX5_total_16 : decode cX5_total 16 = .ok (.aload_n 0, 1) := k_42 zcX5_total rfl rfl
theorem dX5_total_17 : decode cX5_total 17 = .ok (.aload_n 3, 1) := k_45 zcX5_total rfl rfl
theorem dX5_total_18 : decode cX5_total 18 = .ok (.iconst 0, 1) := k_3 zcX5_total rfl rfl
theorem dX5_total_19 : decode cX5_total 19 = .ok (.aload_n 3, 1) := k_45 zcX5_total rfl rfl
theorem dX5_total_20 : decode cX5_total 20 = .ok (.getfield 154, 3) := k_180 zcX5_total rfl rfl rfl
theorem dX5_total_23 : decode cX5_total 23 = .ok (.iload_n 2, 1) := k_28 zcX5_total rfl rfl
theorem dX5_total_24 : decode cX5_total 24 = .ok (.invokevirtual 227, 3) := k_182 zcX5_total rfl rfl rfl
theorem dX5_total_27 : decode cX5_total 27 = .ok (.ireturn, 1) := k_172 zcX5_total rfl rfl
theorem dX5_part_0 : decode cX5_part 0 = .ok (.aload_n 0, 1) := k_42 zcX5_part rfl rfl
theorem dX5_part_1 : decode cX5_part 1 = .ok (.iload_n 1, 1) := k_27 zcX5_part rfl rfl
theorem dX5_part_2 : decode cX5_part 2 = .ok (.iload 4, 2) := k_21 zcX5_part rfl rfl rfl
theorem dX5_part_4 : decode cX5_part 4 = .ok (.invokevirtual 248, 3) := k_182 zcX5_part rfl rfl rfl
theorem dX5_part_7 : decode cX5_part 7 = .ok (.astore 5, 2) := k_58 zcX5_part rfl rfl rfl
theorem dX5_part_9 : decode cX5_part 9 = .ok (.aload 5, 2) := k_25 zcX5_part rfl rfl rfl
theorem dX5_part_11 : decode cX5_part 11 = .ok (.ifnull 21, 3) := k_198 zcX5_part rfl rfl rfl
theorem dX5_part_14 : decode cX5_part 14 = .ok (.iload_n 2, 1) := k_28 zcX5_part rfl rfl
theorem dX5_part_15 : decode cX5_part 15 = .ok (.ifCond .lt 17, 3) := k_155 zcX5_part rfl rfl rfl
theorem dX5_part_18 : decode cX5_part 18 = .ok (.iload_n 3, 1) := k_29 zcX5_part rfl rfl
theorem dX5_part_19 : decode cX5_part 19 = .ok (.iload_n 2, 1) := k_28 zcX5_part rfl rfl
theorem dX5_part_20 : decode cX5_part 20 = .ok (.if_icmp .lt 12, 3) := k_161 zcX5_part rfl rfl rfl
theorem dX5_part_23 : decode cX5_part 23 = .ok (.iload_n 3, 1) := k_29 zcX5_part rfl rfl
theorem dX5_part_24 : decode cX5_part 24 = .ok (.aload 5, 2) := k_25 zcX5_part rfl rfl rfl
theorem dX5_part_26 : decode cX5_part 26 = .ok (.getfield 154, 3) := k_180 zcX5_part rfl rfl rfl
theorem dX5_part_29 : decode cX5_part 29 = .ok (.if_icmp .lt 6, 3) := k_161 zcX5_part rfl rfl rfl
theorem dX5_part_32 : decode cX5_part 32 = .ok (.ldc 175, 2) := k_18 zcX5_part rfl rfl rfl
theorem dX5_part_34 : decode cX5_part 34 = .ok (.ireturn, 1) := k_172 zcX5_part rfl rfl
theorem dX5_part_35 : decode cX5_part 35 = .ok (.aload_n 0, 1) := k_42 zcX5_part rfl rfl
theorem dX5_part_36 : decode cX5_part 36 = .ok (.aload 5, 2) := k_25 zcX5_part rfl rfl rfl
theorem dX5_part_38 : decode cX5_part 38 = .ok (.iload_n 2, 1) := k_28 zcX5_part rfl rfl
theorem dX5_part_39 : decode cX5_part 39 = .ok (.iload_n 3, 1) := k_29 zcX5_part rfl rfl
theorem dX5_part_40 : decode cX5_part 40 = .ok (.iconst 1, 1) := k_4 zcX5_part rfl rfl
theorem dX5_part_41 : decode cX5_part 41 = .ok (.iadd, 1) := k_96 zcX5_part rfl rfl
theorem dX5_part_42 : decode cX5_part 42 = .ok (.iload 4, 2) := k_21 zcX5_part rfl rfl rfl
theorem dX5_part_44 : decode cX5_part 44 = .ok (.invokevirtual 227, 3) := k_182 zcX5_part rfl rfl rfl
theorem dX5_part_47 : decode cX5_part 47 = .ok (.ireturn, 1) := k_172 zcX5_part rfl rfl
theorem dX5_during_0 : decode cX5_during 0 = .ok (.aload_n 0, 1) := k_42 zcX5_during rfl rfl
theorem dX5_during_1 : decode cX5_during 1 = .ok (.iload_n 1, 1) := k_27 zcX5_during rfl rfl
theorem dX5_during_2 : decode cX5_during 2 = .ok (.iload 4, 2) := k_21 zcX5_during rfl rfl rfl
theorem dX5_during_4 : decode cX5_during 4 = .ok (.invokevirtual 248, 3) := k_182 zcX5_during rfl rfl rfl
theorem dX5_during_7 : decode cX5_during 7 = .ok (.astore 5, 2) := k_58 zcX5_during rfl rfl rfl
theorem dX5_during_9 : decode cX5_during 9 = .ok (.aload 5, 2) := k_25 zcX5_during rfl rfl rfl
theorem dX5_during_11 : decode cX5_during 11 = .ok (.ifnonnull 8, 3) := k_199 zcX5_during rfl rfl rfl
theorem dX5_during_14 : decode cX5_during 14 = .ok (.ldc 175, 2) := k_18 zcX5_during rfl rfl rfl
theorem dX5_during_16 : decode cX5_during 16 = .ok (.goto 27, 3) := k_167 zcX5_during rfl rfl rfl
theorem dX5_during_19 : decode cX5_during 19 = .ok (.aload_n 0, 1) := k_42 zcX5_during rfl rfl
theorem dX5_during_20 : decode cX5_during 20 = .ok (.aload 5, 2) := k_25 zcX5_during rfl rfl rfl
theorem dX5_during_22 : decode cX5_during 22 = .ok (.aload 5, 2) := k_25 zcX5_during rfl rfl rfl
theorem dX5_during_24 : decode cX5_during 24 = .ok (.iload_n 2, 1) := k_28 zcX5_during rfl rfl
theorem dX5_during_25 : decode cX5_during 25 = .ok (.i2l, 1) := k_133 zcX5_during rfl rfl
theorem dX5_during_26 : decode cX5_during 26 = .ok (.lconst 1, 1) := k_10 zcX5_during rfl rfl
theorem dX5_during_27 : decode cX5_during 27 = .ok (.lsub, 1) := k_101 zcX5_during rfl rfl
theorem dX5_during_28 : decode cX5_during 28 = .ok (.invokevirtual 167, 3) := k_182 zcX5_during rfl rfl rfl
theorem dX5_during_31 : decode cX5_during 31 = .ok (.aload 5, 2) := k_25 zcX5_during rfl rfl rfl
theorem dX5_during_33 : decode cX5_during 33 = .ok (.iload_n 3, 1) := k_29 zcX5_during rfl rfl
theorem dX5_during_34 : decode cX5_during 34 = .ok (.i2l, 1) := k_133 zcX5_during rfl rfl
theorem dX5_during_35 : decode cX5_during 35 = .ok (.invokevirtual 167, 3) := k_182 zcX5_during rfl rfl rfl
theorem dX5_during_38 : decode cX5_during 38 = .ok (.iload 4, 2) := k_21 zcX5_during rfl rfl rfl
theorem dX5_during_40 : decode cX5_during 40 = .ok (.invokevirtual 227, 3) := k_182 zcX5_during rfl rfl rfl
theorem dX5_during_43 : decode cX5_during 43 = .ok (.ireturn, 1) := k_172 zcX5_during rfl rfl
theorem dX5_many_0 : decode cX5_many 0 = .ok (.aload_n 0, 1) := k_42 zcX5_many rfl rfl
theorem dX5_many_1 : decode cX5_many 1 = .ok (.iload_n 1, 1) := k_27 zcX5_many rfl rfl
theorem dX5_many_2 : decode cX5_many 2 = .ok (.invokevirtual 123, 3) := k_182 zcX5_many rfl rfl rfl
theorem dX5_many_5 : decode cX5_many 5 = .ok (.astore 4, 2) := k_58 zcX5_many rfl rfl rfl
theorem dX5_many_7 : decode cX5_many 7 = .ok (.aload 4, 2) := k_25 zcX5_many rfl rfl rfl
theorem dX5_many_9 : decode cX5_many 9 = .ok (.ifnonnull 7, 3) := k_199 zcX5_many rfl rfl rfl
theorem dX5_many_12 : decode cX5_many 12 = .ok (.iconst (-1), 1) := k_2 zcX5_many rfl rfl
theorem dX5_many_13 : decode cX5_many 13 = .ok (.goto 24, 3) := k_167 zcX5_many rfl rfl rfl
theorem dX5_many_16 : decode cX5_many 16 = .ok (.iconst 0, 1) := k_3 zcX5_many rfl rfl
theorem dX5_many_17 : decode cX5_many 17 = .ok (.aload 4, 2) := k_25 zcX5_many rfl rfl rfl
theorem dX5_many_19 : decode cX5_many 19 = .ok (.iload_n 3, 1) := k_29 zcX5_many rfl rfl
theorem dX5_many_20 : decode cX5_many 20 = .ok (.i2l, 1) := k_133 zcX5_many rfl rfl
theorem dX5_many_21 : decode cX5_many 21 = .ok (.invokevirtual 167, 3) := k_182 zcX5_many rfl rfl rfl
theorem dX5_many_24 : decode cX5_many 24 = .ok (.aload 4, 2) := k_25 zcX5_many rfl rfl rfl
theorem dX5_many_26 : decode cX5_many 26 = .ok (.iload_n 2, 1) := k_28 zcX5_many rfl rfl
theorem dX5_many_27 : decode cX5_many 27 = .ok (.i2l, 1) := k_133 zcX5_many rfl rfl
theorem dX5_many_28 : decode cX5_many 28 = .ok (.lconst 1, 1) := k_10 zcX5_many rfl rfl
theorem dX5_many_29 : decode cX5_many 29 = .ok (.lsub, 1) := k_101 zcX5_many rfl rfl
theorem dX5_many_30 : decode cX5_many 30 = .ok (.invokevirtual 167, 3) := k_182 zcX5_many rfl rfl rfl
theorem dX5_many_33 : decode cX5_many 33 = .ok (.isub, 1) := k_100 zcX5_many rfl rfl
theorem dX5_many_34 : decode cX5_many 34 = .ok (.invokestatic 239, 3) := k_184 zcX5_many rfl rfl rfl
theorem dX5_many_37 : decode cX5_many 37 = .ok (.ireturn, 1) := k_172 zcX5_many rfl rfl
theorem dX5_reach_0 : decode cX5_reach 0 = .ok (.aload_n 0, 1) := k_42 zcX5_reach rfl rfl
theorem dX5_reach_1 : decode cX5_reach 1 = .ok (.iload_n 1, 1) := k_27 zcX5_reach rfl rfl
theorem dX5_reach_2 : decode cX5_reach 2 = .ok (.iload_n 2, 1) := k_28 zcX5_reach rfl rfl
theorem dX5_reach_3 : decode cX5_reach 3 = .ok (.invokevirtual 248, 3) := k_182 zcX5_reach rfl rfl rfl
theorem dX5_reach_6 : decode cX5_reach 6 = .ok (.astore 4, 2) := k_58 zcX5_reach rfl rfl rfl
theorem dX5_reach_8 : decode cX5_reach 8 = .ok (.aload 4, 2) := k_25 zcX5_reach rfl rfl rfl
theorem dX5_reach_10 : decode cX5_reach 10 = .ok (.ifnonnull 5, 3) := k_199 zcX5_reach rfl rfl rfl
theorem dX5_reach_13 : decode cX5_reach 13 = .ok (.iconst (-1), 1) := k_2 zcX5_reach rfl rfl
theorem dX5_reach_14 : decode cX5_reach 14 = .ok (.ireturn, 1) := k_172 zcX5_reach rfl rfl
theorem dX5_reach_15 : decode cX5_reach 15 = .ok (.aload_n 0, 1) := k_42 zcX5_reach rfl rfl
theorem dX5_reach_16 : decode cX5_reach 16 = .ok (.getfield 40, 3) := k_180 zcX5_reach rfl rfl rfl
theorem dX5_reach_19 : decode cX5_reach 19 = .ok (.aload 4, 2) := k_25 zcX5_reach rfl rfl rfl
theorem dX5_reach_21 : decode cX5_reach 21 = .ok (.getfield 98, 3) := k_180 zcX5_reach rfl rfl rfl
theorem dX5_reach_24 : decode cX5_reach 24 = .ok (.invokevirtual 251, 3) := k_182 zcX5_reach rfl rfl rfl
theorem dX5_reach_27 : decode cX5_reach 27 = .ok (.iconst 0, 1) := k_3 zcX5_reach rfl rfl
theorem dX5_reach_28 : decode cX5_reach 28 = .ok (.istore 5, 2) := k_54 zcX5_reach rfl rfl rfl
theorem dX5_reach_30 : decode cX5_reach 30 = .ok (.iload 5, 2) := k_21 zcX5_reach rfl rfl rfl
theorem dX5_reach_32 : decode cX5_reach 32 = .ok (.aload 4, 2) := k_25 zcX5_reach rfl rfl rfl
theorem dX5_reach_34 : decode cX5_reach 34 = .ok (.getfield 154, 3) := k_180 zcX5_reach rfl rfl rfl
theorem dX5_reach_37 : decode cX5_reach 37 = .ok (.if_icmp .ge 41, 3) := k_162 zcX5_reach rfl rfl rfl
theorem dX5_reach_40 : decode cX5_reach 40 = .ok (.aload_n 0, 1) := k_42 zcX5_reach rfl rfl
theorem dX5_reach_41 : decode cX5_reach 41 = .ok (.getfield 40, 3) := k_180 zcX5_reach rfl rfl rfl
theorem dX5_reach_44 : decode cX5_reach 44 = .ok (.aload 4, 2) := k_25 zcX5_reach rfl rfl rfl
theorem dX5_reach_46 : decode cX5_reach 46 = .ok (.getfield 176, 3) := k_180 zcX5_reach rfl rfl rfl
theorem dX5_reach_49 : decode cX5_reach 49 = .ok (.iload 5, 2) := k_21 zcX5_reach rfl rfl rfl
theorem dX5_reach_51 : decode cX5_reach 51 = .ok (.iaload, 1) := k_46 zcX5_reach rfl rfl
theorem dX5_reach_52 : decode cX5_reach 52 = .ok (.invokevirtual 253, 3) := k_182 zcX5_reach rfl rfl rfl
theorem dX5_reach_55 : decode cX5_reach 55 = .ok (.aload_n 0, 1) := k_42 zcX5_reach rfl rfl
theorem dX5_reach_56 : decode cX5_reach 56 = .ok (.getfield 40, 3) := k_180 zcX5_reach rfl rfl rfl
theorem dX5_reach_59 : decode cX5_reach 59 = .ok (.iload_n 2, 1) := k_28 zcX5_reach rfl rfl
theorem dX5_reach_60 : decode cX5_reach 60 = .ok (.iload_n 3, 1) := k_29 zcX5_reach rfl rfl
theorem dX5_reach_61 : decode cX5_reach 61 = .ok (.invokevirtual 256, 3) := k_182 zcX5_reach rfl rfl rfl
theorem dX5_reach_64 : decode cX5_reach 64 = .ok (.ifCond .eq 8, 3) := k_153 zcX5_reach rfl rfl rfl
theorem dX5_reach_67 : decode cX5_reach 67 = .ok (.iload 5, 2) := k_21 zcX5_reach rfl rfl rfl
theorem dX5_reach_69 : decode cX5_reach 69 = .ok (.iconst 1, 1) := k_4 zcX5_reach rfl rfl
theorem dX5_reach_70 : decode cX5_reach 70 = .ok (.iadd, 1) := k_96 zcX5_reach rfl rfl
theorem dX5_reach_71 : decode cX5_reach 71 = .ok (.ireturn, 1) := k_172 zcX5_reach rfl rfl
theorem dX5_reach_72 : decode cX5_reach 72 = .ok (.iinc 5 1, 3) := k_132 zcX5_reach rfl rfl rfl rfl
theorem dX5_reach_75 : decode cX5_reach 75 = .ok (.goto (-45), 3) := k_167 zcX5_reach rfl rfl rfl
theorem dX5_reach_78 : decode cX5_reach 78 = .ok (.iconst (-1), 1) := k_2 zcX5_reach rfl rfl
theorem dX5_reach_79 : decode cX5_reach 79 = .ok (.ireturn, 1) := k_172 zcX5_reach rfl rfl
theorem dX5_reachBack_0 : decode cX5_reachBack 0 = .ok (.aload_n 0, 1) := k_42 zcX5_reachBack rfl rfl
theorem dX5_reachBack_1 : decode cX5_reachBack 1 = .ok (.iload_n 1, 1) := k_27 zcX5_reachBack rfl rfl
theorem dX5_reachBack_2 : decode cX5_reachBack 2 = .ok (.iload_n 2, 1) := k_28 zcX5_reachBack rfl rfl
theorem dX5_reachBack_3 : decode cX5_reachBack 3 = .ok (.invokevirtual 248, 3) := k_182 zcX5_reachBack rfl rfl rfl
theorem dX5_reachBack_6 : decode cX5_reachBack 6 = .ok (.astore 4, 2) := k_58 zcX5_reachBack rfl rfl rfl
theorem dX5_reachBack_8 : decode cX5_reachBack 8 = .ok (.aload 4, 2) := k_25 zcX5_reachBack rfl rfl rfl
theorem dX5_reachBack_10 : decode cX5_reachBack 10 = .ok (.ifnonnull 5, 3) := k_199 zcX5_reachBack rfl rfl rfl
theorem dX5_reachBack_13 : decode cX5_reachBack 13 = .ok (.iconst (-1), 1) := k_2 zcX5_reachBack rfl rfl
theorem dX5_reachBack_14 : decode cX5_reachBack 14 = .ok (.ireturn, 1) := k_172 zcX5_reachBack rfl rfl
theorem dX5_reachBack_15 : decode cX5_reachBack 15 = .ok (.iconst 1, 1) := k_4 zcX5_reachBack rfl rfl
theorem dX5_reachBack_16 : decode cX5_reachBack 16 = .ok (.istore 5, 2) := k_54 zcX5_reachBack rfl rfl rfl
theorem dX5_reachBack_18 : decode cX5_reachBack 18 = .ok (.iload 5, 2) := k_21 zcX5_reachBack rfl rfl rfl
theorem dX5_reachBack_20 : decode cX5_reachBack 20 = .ok (.aload 4, 2) := k_25 zcX5_reachBack rfl rfl rfl
theorem dX5_reachBack_22 : decode cX5_reachBack 22 = .ok (.getfield 154, 3) := k_180 zcX5_reachBack rfl rfl rfl
theorem dX5_reachBack_25 : decode cX5_reachBack 25 = .ok (.if_icmp .gt 43, 3) := k_163 zcX5_reachBack rfl rfl rfl
theorem dX5_reachBack_28 : decode cX5_reachBack 28 = .ok (.aload_n 0, 1) := k_42 zcX5_reachBack rfl rfl
theorem dX5_reachBack_29 : decode cX5_reachBack 29 = .ok (.aload 4, 2) := k_25 zcX5_reachBack rfl rfl rfl
theorem dX5_reachBack_31 : decode cX5_reachBack 31 = .ok (.aload 4, 2) := k_25 zcX5_reachBack rfl rfl rfl
theorem dX5_reachBack_33 : decode cX5_reachBack 33 = .ok (.getfield 154, 3) := k_180 zcX5_reachBack rfl rfl rfl
theorem dX5_reachBack_36 : decode cX5_reachBack 36 = .ok (.iload 5, 2) := k_21 zcX5_reachBack rfl rfl rfl
theorem dX5_reachBack_38 : decode cX5_reachBack 38 = .ok (.isub, 1) := k_100 zcX5_reachBack rfl rfl
theorem dX5_reachBack_39 : decode cX5_reachBack 39 = .ok (.aload 4, 2) := k_25 zcX5_reachBack rfl rfl rfl
theorem dX5_reachBack_41 : decode cX5_reachBack 41 = .ok (.getfield 154, 3) := k_180 zcX5_reachBack rfl rfl rfl
theorem dX5_reachBack_44 : decode cX5_reachBack 44 = .ok (.invokevirtual 259, 3) := k_182 zcX5_reachBack rfl rfl rfl
theorem dX5_reachBack_47 : decode cX5_reachBack 47 = .ok (.aload_n 0, 1) := k_42 zcX5_reachBack rfl rfl
theorem dX5_reachBack_48 : decode cX5_reachBack 48 = .ok (.getfield 40, 3) := k_180 zcX5_reachBack rfl rfl rfl
theorem dX5_reachBack_51 : decode cX5_reachBack 51 = .ok (.iload_n 2, 1) := k_28 zcX5_reachBack rfl rfl
theorem dX5_reachBack_52 : decode cX5_reachBack 52 = .ok (.iload_n 3, 1) := k_29 zcX5_reachBack rfl rfl
theorem dX5_reachBack_53 : decode cX5_reachBack 53 = .ok (.invokevirtual 256, 3) := k_182 zcX5_reachBack rfl rfl rfl
theorem dX5_reachBack_56 : decode cX5_reachBack 56 = .ok (.ifCond .eq 6, 3) := k_153 zcX5_reachBack rfl rfl rfl
theorem dX5_reachBack_59 : decode cX5_reachBack 59 = .ok (.iload 5, 2) := k_21 zcX5_reachBack rfl rfl rfl
theorem dX5_reachBack_61 : decode cX5_reachBack 61 = .ok (.ireturn, 1) := k_172 zcX5_reachBack rfl rfl
theorem dX5_reachBack_62 : decode cX5_reachBack 62 = .ok (.iinc 5 1, 3) := k_132 zcX5_reachBack rfl rfl rfl rfl
theorem dX5_reachBack_65 : decode cX5_reachBack 65 = .ok (.goto (-47), 3) := k_167 zcX5_reachBack rfl rfl rfl
theorem dX5_reachBack_68 : decode cX5_reachBack 68 = .ok (.iconst (-1), 1) := k_2 zcX5_reachBack rfl rfl
theorem dX5_reachBack_69 : decode cX5_reachBack 69 = .ok (.ireturn, 1) := k_172 zcX5_reachBack rfl rfl
theorem dX5_peak_0 : decode cX5_peak 0 = .ok (.aload_n 0, 1) := k_42 zcX5_peak rfl rfl
theorem dX5_peak_1 : decode cX5_peak 1 = .ok (.iload_n 1, 1) := k_27 zcX5_peak rfl rfl
theorem dX5_peak_2 : decode cX5_peak 2 = .ok (.iload_n 2, 1) := k_28 zcX5_peak rfl rfl
theorem dX5_peak_3 : decode cX5_peak 3 = .ok (.iload_n 3, 1) := k_29 zcX5_peak rfl rfl
theorem dX5_peak_4 : decode cX5_peak 4 = .ok (.invokevirtual 262, 3) := k_182 zcX5_peak rfl rfl rfl
theorem dX5_peak_7 : decode cX5_peak 7 = .ok (.istore 4, 2) := k_54 zcX5_peak rfl rfl rfl
theorem dX5_peak_9 : decode cX5_peak 9 = .ok (.iload 4, 2) := k_21 zcX5_peak rfl rfl rfl
theorem dX5_peak_11 : decode cX5_peak 11 = .ok (.iconst (-1), 1) := k_2 zcX5_peak rfl rfl
theorem dX5_peak_12 : decode cX5_peak 12 = .ok (.if_icmp .ne 8, 3) := k_160 zcX5_peak rfl rfl rfl
theorem dX5_peak_15 : decode cX5_peak 15 = .ok (.ldc 175, 2) := k_18 zcX5_peak rfl rfl rfl
theorem dX5_peak_17 : decode cX5_peak 17 = .ok (.goto 20, 3) := k_167 zcX5_peak rfl rfl rfl
theorem dX5_peak_20 : decode cX5_peak 20 = .ok (.aload_n 0, 1) := k_42 zcX5_peak rfl rfl
theorem dX5_peak_21 : decode cX5_peak 21 = .ok (.aload_n 0, 1) := k_42 zcX5_peak rfl rfl
theorem dX5_peak_22 : decode cX5_peak 22 = .ok (.getfield 13, 3) := k_180 zcX5_peak rfl rfl rfl
theorem dX5_peak_25 : decode cX5_peak 25 = .ok (.iload_n 1, 1) := k_27 zcX5_peak rfl rfl
theorem dX5_peak_26 : decode cX5_peak 26 = .ok (.aaload, 1) := k_50 zcX5_peak rfl rfl
theorem dX5_peak_27 : decode cX5_peak 27 = .ok (.iload 4, 2) := k_21 zcX5_peak rfl rfl rfl
theorem dX5_peak_29 : decode cX5_peak 29 = .ok (.iload 4, 2) := k_21 zcX5_peak rfl rfl rfl
theorem dX5_peak_31 : decode cX5_peak 31 = .ok (.iload_n 2, 1) := k_28 zcX5_peak rfl rfl
theorem dX5_peak_32 : decode cX5_peak 32 = .ok (.iadd, 1) := k_96 zcX5_peak rfl rfl
theorem dX5_peak_33 : decode cX5_peak 33 = .ok (.iload_n 3, 1) := k_29 zcX5_peak rfl rfl
theorem dX5_peak_34 : decode cX5_peak 34 = .ok (.invokevirtual 227, 3) := k_182 zcX5_peak rfl rfl rfl
theorem dX5_peak_37 : decode cX5_peak 37 = .ok (.ireturn, 1) := k_172 zcX5_peak rfl rfl
theorem dX5_peakAt_0 : decode cX5_peakAt 0 = .ok (.aload_n 0, 1) := k_42 zcX5_peakAt rfl rfl
theorem dX5_peakAt_1 : decode cX5_peakAt 1 = .ok (.iload_n 1, 1) := k_27 zcX5_peakAt rfl rfl
theorem dX5_peakAt_2 : decode cX5_peakAt 2 = .ok (.iload_n 3, 1) := k_29 zcX5_peakAt rfl rfl
theorem dX5_peakAt_3 : decode cX5_peakAt 3 = .ok (.invokevirtual 248, 3) := k_182 zcX5_peakAt rfl rfl rfl
theorem dX5_peakAt_6 : decode cX5_peakAt 6 = .ok (.astore 4, 2) := k_58 zcX5_peakAt rfl rfl rfl
theorem dX5_peakAt_8 : decode cX5_peakAt 8 = .ok (.aload 4, 2) := k_25 zcX5_peakAt rfl rfl rfl
theorem dX5_peakAt_10 : decode cX5_peakAt 10 = .ok (.ifnull 16, 3) := k_198 zcX5_peakAt rfl rfl rfl
theorem dX5_peakAt_13 : decode cX5_peakAt 13 = .ok (.iload_n 2, 1) := k_28 zcX5_peakAt rfl rfl
theorem dX5_peakAt_14 : decode cX5_peakAt 14 = .ok (.iconst 1, 1) := k_4 zcX5_peakAt rfl rfl
theorem dX5_peakAt_15 : decode cX5_peakAt 15 = .ok (.aload 4, 2) := k_25 zcX5_peakAt rfl rfl rfl
theorem dX5_peakAt_17 : decode cX5_peakAt 17 = .ok (.getfield 154, 3) := k_180 zcX5_peakAt rfl rfl rfl
theorem dX5_peakAt_20 : decode cX5_peakAt 20 = .ok (.invokestatic 59, 3) := k_184 zcX5_peakAt rfl rfl rfl
theorem dX5_peakAt_23 : decode cX5_peakAt 23 = .ok (.ifCond .ne 5, 3) := k_154 zcX5_peakAt rfl rfl rfl
theorem dX5_peakAt_26 : decode cX5_peakAt 26 = .ok (.iconst (-1), 1) := k_2 zcX5_peakAt rfl rfl
theorem dX5_peakAt_27 : decode cX5_peakAt 27 = .ok (.ireturn, 1) := k_172 zcX5_peakAt rfl rfl
theorem dX5_peakAt_28 : decode cX5_peakAt 28 = .ok (.iconst 0, 1) := k_3 zcX5_peakAt rfl rfl
theorem dX5_peakAt_29 : decode cX5_peakAt 29 = .ok (.istore 5, 2) := k_54 zcX5_peakAt rfl rfl rfl
theorem dX5_peakAt_31 : decode cX5_peakAt 31 = .ok (.ldc 175, 2) := k_18 zcX5_peakAt rfl rfl rfl
theorem dX5_peakAt_33 : decode cX5_peakAt 33 = .ok (.istore 6, 2) := k_54 zcX5_peakAt rfl rfl rfl
theorem dX5_peakAt_35 : decode cX5_peakAt 35 = .ok (.iconst 0, 1) := k_3 zcX5_peakAt rfl rfl
theorem dX5_peakAt_36 : decode cX5_peakAt 36 = .ok (.istore 7, 2) := k_54 zcX5_peakAt rfl rfl rfl
theorem dX5_peakAt_38 : decode cX5_peakAt 38 = .ok (.iload 7, 2) := k_21 zcX5_peakAt rfl rfl rfl
theorem dX5_peakAt_40 : decode cX5_peakAt 40 = .ok (.iload_n 2, 1) := k_28 zcX5_peakAt rfl rfl
theorem dX5_peakAt_41 : decode cX5_peakAt 41 = .ok (.iadd, 1) := k_96 zcX5_peakAt rfl rfl
theorem dX5_peakAt_42 : decode cX5_peakAt 42 = .ok (.aload 4, 2) := k_25 zcX5_peakAt rfl rfl rfl
theorem dX5_peakAt_44 : decode cX5_peakAt 44 = .ok (.getfield 154, 3) := k_180 zcX5_peakAt rfl rfl rfl
theorem dX5_peakAt_47 : decode cX5_peakAt 47 = .ok (.if_icmp .gt 39, 3) := k_163 zcX5_peakAt rfl rfl rfl
theorem dX5_peakAt_50 : decode cX5_peakAt 50 = .ok (.aload_n 0, 1) := k_42 zcX5_peakAt rfl rfl
theorem dX5_peakAt_51 : decode cX5_peakAt 51 = .ok (.aload 4, 2) := k_25 zcX5_peakAt rfl rfl rfl
theorem dX5_peakAt_53 : decode cX5_peakAt 53 = .ok (.iload 7, 2) := k_21 zcX5_peakAt rfl rfl rfl
theorem dX5_peakAt_55 : decode cX5_peakAt 55 = .ok (.iload 7, 2) := k_21 zcX5_peakAt rfl rfl rfl
theorem dX5_peakAt_57 : decode cX5_peakAt 57 = .ok (.iload_n 2, 1) := k_28 zcX5_peakAt rfl rfl
theorem dX5_peakAt_58 : decode cX5_peakAt 58 = .ok (.iadd, 1) := k_96 zcX5_peakAt rfl rfl
theorem dX5_peakAt_59 : decode cX5_peakAt 59 = .ok (.iload_n 3, 1) := k_29 zcX5_peakAt rfl rfl
theorem dX5_peakAt_60 : decode cX5_peakAt 60 = .ok (.invokevirtual 227, 3) := k_182 zcX5_peakAt rfl rfl rfl
theorem dX5_peakAt_63 : decode cX5_peakAt 63 = .ok (.istore 8, 2) := k_54 zcX5_peakAt rfl rfl rfl
theorem dX5_peakAt_65 : decode cX5_peakAt 65 = .ok (.iload 8, 2) := k_21 zcX5_peakAt rfl rfl rfl
theorem dX5_peakAt_67 : decode cX5_peakAt 67 = .ok (.iload 6, 2) := k_21 zcX5_peakAt rfl rfl rfl
theorem dX5_peakAt_69 : decode cX5_peakAt 69 = .ok (.if_icmp .le 11, 3) := k_164 zcX5_peakAt rfl rfl rfl
theorem dX5_peakAt_72 : decode cX5_peakAt 72 = .ok (.iload 8, 2) := k_21 zcX5_peakAt rfl rfl rfl
theorem dX5_peakAt_74 : decode cX5_peakAt 74 = .ok (.istore 6, 2) := k_54 zcX5_peakAt rfl rfl rfl
theorem dX5_peakAt_76 : decode cX5_peakAt 76 = .ok (.iload 7, 2) := k_21 zcX5_peakAt rfl rfl rfl
theorem dX5_peakAt_78 : decode cX5_peakAt 78 = .ok (.istore 5, 2) := k_54 zcX5_peakAt rfl rfl rfl
theorem dX5_peakAt_80 : decode cX5_peakAt 80 = .ok (.iinc 7 1, 3) := k_132 zcX5_peakAt rfl rfl rfl rfl
theorem dX5_peakAt_83 : decode cX5_peakAt 83 = .ok (.goto (-45), 3) := k_167 zcX5_peakAt rfl rfl rfl
theorem dX5_peakAt_86 : decode cX5_peakAt 86 = .ok (.iload 5, 2) := k_21 zcX5_peakAt rfl rfl rfl
theorem dX5_peakAt_88 : decode cX5_peakAt 88 = .ok (.ireturn, 1) := k_172 zcX5_peakAt rfl rfl
theorem dX5_without_0 : decode cX5_without 0 = .ok (.aload_n 0, 1) := k_42 zcX5_without rfl rfl
theorem dX5_without_1 : decode cX5_without 1 = .ok (.iload_n 1, 1) := k_27 zcX5_without rfl rfl
theorem dX5_without_2 : decode cX5_without 2 = .ok (.iload_n 2, 1) := k_28 zcX5_without rfl rfl
theorem dX5_without_3 : decode cX5_without 3 = .ok (.invokevirtual 171, 3) := k_182 zcX5_without rfl rfl rfl
theorem dX5_without_6 : decode cX5_without 6 = .ok (.astore 4, 2) := k_58 zcX5_without rfl rfl rfl
theorem dX5_without_8 : decode cX5_without 8 = .ok (.aload 4, 2) := k_25 zcX5_without rfl rfl rfl
theorem dX5_without_10 : decode cX5_without 10 = .ok (.ifnull 12, 3) := k_198 zcX5_without rfl rfl rfl
theorem dX5_without_13 : decode cX5_without 13 = .ok (.aload 4, 2) := k_25 zcX5_without rfl rfl rfl
theorem dX5_without_15 : decode cX5_without 15 = .ok (.iload_n 3, 1) := k_29 zcX5_without rfl rfl
theorem dX5_without_16 : decode cX5_without 16 = .ok (.invokevirtual 266, 3) := k_182 zcX5_without rfl rfl rfl
theorem dX5_without_19 : decode cX5_without 19 = .ok (.ifCond .ne 8, 3) := k_154 zcX5_without rfl rfl rfl
theorem dX5_without_22 : decode cX5_without 22 = .ok (.ldc 175, 2) := k_18 zcX5_without rfl rfl rfl
theorem dX5_without_24 : decode cX5_without 24 = .ok (.goto 11, 3) := k_167 zcX5_without rfl rfl rfl
theorem dX5_without_27 : decode cX5_without 27 = .ok (.aload_n 0, 1) := k_42 zcX5_without rfl rfl
theorem dX5_without_28 : decode cX5_without 28 = .ok (.aload 4, 2) := k_25 zcX5_without rfl rfl rfl
theorem dX5_without_30 : decode cX5_without 30 = .ok (.iload_n 2, 1) := k_28 zcX5_without rfl rfl
theorem dX5_without_31 : decode cX5_without 31 = .ok (.iload_n 3, 1) := k_29 zcX5_without rfl rfl
theorem dX5_without_32 : decode cX5_without 32 = .ok (.invokevirtual 269, 3) := k_182 zcX5_without rfl rfl rfl
theorem dX5_without_35 : decode cX5_without 35 = .ok (.ireturn, 1) := k_172 zcX5_without rfl rfl
theorem dX5_spare_0 : decode cX5_spare 0 = .ok (.aload_n 0, 1) := k_42 zcX5_spare rfl rfl
theorem dX5_spare_1 : decode cX5_spare 1 = .ok (.iload_n 1, 1) := k_27 zcX5_spare rfl rfl
theorem dX5_spare_2 : decode cX5_spare 2 = .ok (.iload_n 2, 1) := k_28 zcX5_spare rfl rfl
theorem dX5_spare_3 : decode cX5_spare 3 = .ok (.invokevirtual 248, 3) := k_182 zcX5_spare rfl rfl rfl
theorem dX5_spare_6 : decode cX5_spare 6 = .ok (.astore_n 3, 1) := k_78 zcX5_spare rfl rfl
theorem dX5_spare_7 : decode cX5_spare 7 = .ok (.aload_n 3, 1) := k_45 zcX5_spare rfl rfl
theorem dX5_spare_8 : decode cX5_spare 8 = .ok (.ifnull 11, 3) := k_198 zcX5_spare rfl rfl rfl
theorem dX5_spare_11 : decode cX5_spare 11 = .ok (.aload_n 3, 1) := k_45 zcX5_spare rfl rfl
theorem dX5_spare_12 : decode cX5_spare 12 = .ok (.getfield 154, 3) := k_180 zcX5_spare rfl rfl rfl
theorem dX5_spare_15 : decode cX5_spare 15 = .ok (.iconst 2, 1) := k_5 zcX5_spare rfl rfl
theorem dX5_spare_16 : decode cX5_spare 16 = .ok (.if_icmp .ge 5, 3) := k_162 zcX5_spare rfl rfl rfl
theorem dX5_spare_19 : decode cX5_spare 19 = .ok (.iconst (-1), 1) := k_2 zcX5_spare rfl rfl
theorem dX5_spare_20 : decode cX5_spare 20 = .ok (.ireturn, 1) := k_172 zcX5_spare rfl rfl
theorem dX5_spare_21 : decode cX5_spare 21 = .ok (.iconst 0, 1) := k_3 zcX5_spare rfl rfl
theorem dX5_spare_22 : decode cX5_spare 22 = .ok (.istore 4, 2) := k_54 zcX5_spare rfl rfl rfl
theorem dX5_spare_24 : decode cX5_spare 24 = .ok (.ldc 175, 2) := k_18 zcX5_spare rfl rfl rfl
theorem dX5_spare_26 : decode cX5_spare 26 = .ok (.istore 5, 2) := k_54 zcX5_spare rfl rfl rfl
theorem dX5_spare_28 : decode cX5_spare 28 = .ok (.iconst 0, 1) := k_3 zcX5_spare rfl rfl
theorem dX5_spare_29 : decode cX5_spare 29 = .ok (.istore 6, 2) := k_54 zcX5_spare rfl rfl rfl
theorem dX5_spare_31 : decode cX5_spare 31 = .ok (.iload 6, 2) := k_21 zcX5_spare rfl rfl rfl
theorem dX5_spare_33 : decode cX5_spare 33 = .ok (.aload_n 3, 1) := k_45 zcX5_spare rfl rfl
theorem dX5_spare_34 : decode cX5_spare 34 = .ok (.getfield 154, 3) := k_180 zcX5_spare rfl rfl rfl
theorem dX5_spare_37 : decode cX5_spare 37 = .ok (.if_icmp .ge 34, 3) := k_162 zcX5_spare rfl rfl rfl
theorem dX5_spare_40 : decode cX5_spare 40 = .ok (.aload_n 0, 1) := k_42 zcX5_spare rfl rfl
theorem dX5_spare_41 : decode cX5_spare 41 = .ok (.aload_n 3, 1) := k_45 zcX5_spare rfl rfl
theorem dX5_spare_42 : decode cX5_spare 42 = .ok (.iload 6, 2) := k_21 zcX5_spare rfl rfl rfl
theorem dX5_spare_44 : decode cX5_spare 44 = .ok (.iload_n 2, 1) := k_28 zcX5_spare rfl rfl
theorem dX5_spare_45 : decode cX5_spare 45 = .ok (.invokevirtual 269, 3) := k_182 zcX5_spare rfl rfl rfl
theorem dX5_spare_48 : decode cX5_spare 48 = .ok (.istore 7, 2) := k_54 zcX5_spare rfl rfl rfl
theorem dX5_spare_50 : decode cX5_spare 50 = .ok (.iload 7, 2) := k_21 zcX5_spare rfl rfl rfl
theorem dX5_spare_52 : decode cX5_spare 52 = .ok (.iload 5, 2) := k_21 zcX5_spare rfl rfl rfl
theorem dX5_spare_54 : decode cX5_spare 54 = .ok (.if_icmp .le 11, 3) := k_164 zcX5_spare rfl rfl rfl
theorem dX5_spare_57 : decode cX5_spare 57 = .ok (.iload 7, 2) := k_21 zcX5_spare rfl rfl rfl
theorem dX5_spare_59 : decode cX5_spare 59 = .ok (.istore 5, 2) := k_54 zcX5_spare rfl rfl rfl
theorem dX5_spare_61 : decode cX5_spare 61 = .ok (.iload 6, 2) := k_21 zcX5_spare rfl rfl rfl
theorem dX5_spare_63 : decode cX5_spare 63 = .ok (.istore 4, 2) := k_54 zcX5_spare rfl rfl rfl
theorem dX5_spare_65 : decode cX5_spare 65 = .ok (.iinc 6 1, 3) := k_132 zcX5_spare rfl rfl rfl rfl
theorem dX5_spare_68 : decode cX5_spare 68 = .ok (.goto (-37), 3) := k_167 zcX5_spare rfl rfl rfl
theorem dX5_spare_71 : decode cX5_spare 71 = .ok (.iload 4, 2) := k_21 zcX5_spare rfl rfl rfl
theorem dX5_spare_73 : decode cX5_spare 73 = .ok (.ireturn, 1) := k_172 zcX5_spare rfl rfl
theorem dX5_turned_0 : decode cX5_turned 0 = .ok (.aload_n 0, 1) := k_42 zcX5_turned rfl rfl
theorem dX5_turned_1 : decode cX5_turned 1 = .ok (.iload_n 1, 1) := k_27 zcX5_turned rfl rfl
theorem dX5_turned_2 : decode cX5_turned 2 = .ok (.iload_n 2, 1) := k_28 zcX5_turned rfl rfl
theorem dX5_turned_3 : decode cX5_turned 3 = .ok (.invokevirtual 248, 3) := k_182 zcX5_turned rfl rfl rfl
theorem dX5_turned_6 : decode cX5_turned 6 = .ok (.astore_n 3, 1) := k_78 zcX5_turned rfl rfl
theorem dX5_turned_7 : decode cX5_turned 7 = .ok (.aload_n 3, 1) := k_45 zcX5_turned rfl rfl
theorem dX5_turned_8 : decode cX5_turned 8 = .ok (.ifnonnull 6, 3) := k_199 zcX5_turned rfl rfl rfl
theorem dX5_turned_11 : decode cX5_turned 11 = .ok (.ldc 175, 2) := k_18 zcX5_turned rfl rfl rfl
theorem dX5_turned_13 : decode cX5_turned 13 = .ok (.ireturn, 1) := k_172 zcX5_turned rfl rfl
theorem dX5_turned_14 : decode cX5_turned 14 = .ok (.aload_n 0, 1) := k_42 zcX5_turned rfl rfl
theorem dX5_turned_15 : decode cX5_turned 15 = .ok (.getfield 40, 3) := k_180 zcX5_turned rfl rfl rfl
theorem dX5_turned_18 : decode cX5_turned 18 = .ok (.aload_n 3, 1) := k_45 zcX5_turned rfl rfl
theorem dX5_turned_19 : decode cX5_turned 19 = .ok (.getfield 98, 3) := k_180 zcX5_turned rfl rfl rfl
theorem dX5_turned_22 : decode cX5_turned 22 = .ok (.invokevirtual 251, 3) := k_182 zcX5_turned rfl rfl rfl
theorem dX5_turned_25 : decode cX5_turned 25 = .ok (.aload_n 3, 1) := k_45 zcX5_turned rfl rfl
theorem dX5_turned_26 : decode cX5_turned 26 = .ok (.getfield 154, 3) := k_180 zcX5_turned rfl rfl rfl
theorem dX5_turned_29 : decode cX5_turned 29 = .ok (.iconst 1, 1) := k_4 zcX5_turned rfl rfl
theorem dX5_turned_30 : decode cX5_turned 30 = .ok (.isub, 1) := k_100 zcX5_turned rfl rfl
theorem dX5_turned_31 : decode cX5_turned 31 = .ok (.istore 4, 2) := k_54 zcX5_turned rfl rfl rfl
theorem dX5_turned_33 : decode cX5_turned 33 = .ok (.iload 4, 2) := k_21 zcX5_turned rfl rfl rfl
theorem dX5_turned_35 : decode cX5_turned 35 = .ok (.ifCond .lt 23, 3) := k_155 zcX5_turned rfl rfl rfl
theorem dX5_turned_38 : decode cX5_turned 38 = .ok (.aload_n 0, 1) := k_42 zcX5_turned rfl rfl
theorem dX5_turned_39 : decode cX5_turned 39 = .ok (.getfield 40, 3) := k_180 zcX5_turned rfl rfl rfl
theorem dX5_turned_42 : decode cX5_turned 42 = .ok (.aload_n 3, 1) := k_45 zcX5_turned rfl rfl
theorem dX5_turned_43 : decode cX5_turned 43 = .ok (.getfield 176, 3) := k_180 zcX5_turned rfl rfl rfl
theorem dX5_turned_46 : decode cX5_turned 46 = .ok (.iload 4, 2) := k_21 zcX5_turned rfl rfl rfl
theorem dX5_turned_48 : decode cX5_turned 48 = .ok (.iaload, 1) := k_46 zcX5_turned rfl rfl
theorem dX5_turned_49 : decode cX5_turned 49 = .ok (.invokevirtual 253, 3) := k_182 zcX5_turned rfl rfl rfl
theorem dX5_turned_52 : decode cX5_turned 52 = .ok (.iinc 4 (-1), 3) := k_132 zcX5_turned rfl rfl rfl rfl
theorem dX5_turned_55 : decode cX5_turned 55 = .ok (.goto (-22), 3) := k_167 zcX5_turned rfl rfl rfl
theorem dX5_turned_58 : decode cX5_turned 58 = .ok (.aload_n 0, 1) := k_42 zcX5_turned rfl rfl
theorem dX5_turned_59 : decode cX5_turned 59 = .ok (.getfield 40, 3) := k_180 zcX5_turned rfl rfl rfl
theorem dX5_turned_62 : decode cX5_turned 62 = .ok (.iload_n 2, 1) := k_28 zcX5_turned rfl rfl
theorem dX5_turned_63 : decode cX5_turned 63 = .ok (.invokevirtual 273, 3) := k_182 zcX5_turned rfl rfl rfl
theorem dX5_turned_66 : decode cX5_turned 66 = .ok (.ireturn, 1) := k_172 zcX5_turned rfl rfl
theorem dX5_commutes_0 : decode cX5_commutes 0 = .ok (.aload_n 0, 1) := k_42 zcX5_commutes rfl rfl
theorem dX5_commutes_1 : decode cX5_commutes 1 = .ok (.iload_n 1, 1) := k_27 zcX5_commutes rfl rfl
theorem dX5_commutes_2 : decode cX5_commutes 2 = .ok (.iload_n 2, 1) := k_28 zcX5_commutes rfl rfl
theorem dX5_commutes_3 : decode cX5_commutes 3 = .ok (.invokevirtual 171, 3) := k_182 zcX5_commutes rfl rfl rfl
theorem dX5_commutes_6 : decode cX5_commutes 6 = .ok (.astore_n 3, 1) := k_78 zcX5_commutes rfl rfl
theorem dX5_commutes_7 : decode cX5_commutes 7 = .ok (.aload_n 3, 1) := k_45 zcX5_commutes rfl rfl
theorem dX5_commutes_8 : decode cX5_commutes 8 = .ok (.ifnull 13, 3) := k_198 zcX5_commutes rfl rfl rfl
theorem dX5_commutes_11 : decode cX5_commutes 11 = .ok (.iload_n 2, 1) := k_28 zcX5_commutes rfl rfl
theorem dX5_commutes_12 : decode cX5_commutes 12 = .ok (.aload_n 3, 1) := k_45 zcX5_commutes rfl rfl
theorem dX5_commutes_13 : decode cX5_commutes 13 = .ok (.getfield 154, 3) := k_180 zcX5_commutes rfl rfl rfl
theorem dX5_commutes_16 : decode cX5_commutes 16 = .ok (.iconst 1, 1) := k_4 zcX5_commutes rfl rfl
theorem dX5_commutes_17 : decode cX5_commutes 17 = .ok (.isub, 1) := k_100 zcX5_commutes rfl rfl
theorem dX5_commutes_18 : decode cX5_commutes 18 = .ok (.if_icmp .ne 5, 3) := k_160 zcX5_commutes rfl rfl rfl
theorem dX5_commutes_21 : decode cX5_commutes 21 = .ok (.iconst (-1), 1) := k_2 zcX5_commutes rfl rfl
theorem dX5_commutes_22 : decode cX5_commutes 22 = .ok (.ireturn, 1) := k_172 zcX5_commutes rfl rfl
theorem dX5_commutes_23 : decode cX5_commutes 23 = .ok (.aload_n 0, 1) := k_42 zcX5_commutes rfl rfl
theorem dX5_commutes_24 : decode cX5_commutes 24 = .ok (.aload_n 3, 1) := k_45 zcX5_commutes rfl rfl
theorem dX5_commutes_25 : decode cX5_commutes 25 = .ok (.iconst 0, 1) := k_3 zcX5_commutes rfl rfl
theorem dX5_commutes_26 : decode cX5_commutes 26 = .ok (.aload_n 3, 1) := k_45 zcX5_commutes rfl rfl
theorem dX5_commutes_27 : decode cX5_commutes 27 = .ok (.getfield 154, 3) := k_180 zcX5_commutes rfl rfl rfl
theorem dX5_commutes_30 : decode cX5_commutes 30 = .ok (.invokevirtual 259, 3) := k_182 zcX5_commutes rfl rfl rfl
theorem dX5_commutes_33 : decode cX5_commutes 33 = .ok (.aload_n 0, 1) := k_42 zcX5_commutes rfl rfl
theorem dX5_commutes_34 : decode cX5_commutes 34 = .ok (.getfield 40, 3) := k_180 zcX5_commutes rfl rfl rfl
theorem dX5_commutes_37 : decode cX5_commutes 37 = .ok (.invokevirtual 275, 3) := k_182 zcX5_commutes rfl rfl rfl
theorem dX5_commutes_40 : decode cX5_commutes 40 = .ok (.aload_n 0, 1) := k_42 zcX5_commutes rfl rfl
theorem dX5_commutes_41 : decode cX5_commutes 41 = .ok (.getfield 40, 3) := k_180 zcX5_commutes rfl rfl rfl
theorem dX5_commutes_44 : decode cX5_commutes 44 = .ok (.aload_n 3, 1) := k_45 zcX5_commutes rfl rfl
theorem dX5_commutes_45 : decode cX5_commutes 45 = .ok (.getfield 98, 3) := k_180 zcX5_commutes rfl rfl rfl
theorem dX5_commutes_48 : decode cX5_commutes 48 = .ok (.invokevirtual 251, 3) := k_182 zcX5_commutes rfl rfl rfl
theorem dX5_commutes_51 : decode cX5_commutes 51 = .ok (.iconst 0, 1) := k_3 zcX5_commutes rfl rfl
theorem dX5_commutes_52 : decode cX5_commutes 52 = .ok (.istore 4, 2) := k_54 zcX5_commutes rfl rfl rfl
theorem dX5_commutes_54 : decode cX5_commutes 54 = .ok (.iload 4, 2) := k_21 zcX5_commutes rfl rfl rfl
theorem dX5_commutes_56 : decode cX5_commutes 56 = .ok (.aload_n 3, 1) := k_45 zcX5_commutes rfl rfl
theorem dX5_commutes_57 : decode cX5_commutes 57 = .ok (.getfield 154, 3) := k_180 zcX5_commutes rfl rfl rfl
theorem dX5_commutes_60 : decode cX5_commutes 60 = .ok (.if_icmp .ge 51, 3) := k_162 zcX5_commutes rfl rfl rfl
theorem dX5_commutes_63 : decode cX5_commutes 63 = .ok (.iload 4, 2) := k_21 zcX5_commutes rfl rfl rfl
theorem dX5_commutes_65 : decode cX5_commutes 65 = .ok (.iload_n 2, 1) := k_28 zcX5_commutes rfl rfl
theorem dX5_commutes_66 : decode cX5_commutes 66 = .ok (.if_icmp .ne 9, 3) := k_160 zcX5_commutes rfl rfl rfl
theorem dX5_commutes_69 : decode cX5_commutes 69 = .ok (.iload_n 2, 1) := k_28 zcX5_commutes rfl rfl
theorem dX5_commutes_70 : decode cX5_commutes 70 = .ok (.iconst 1, 1) := k_4 zcX5_commutes rfl rfl
theorem dX5_commutes_71 : decode cX5_commutes 71 = .ok (.iadd, 1) := k_96 zcX5_commutes rfl rfl
theorem dX5_commutes_72 : decode cX5_commutes 72 = .ok (.goto 17, 3) := k_167 zcX5_commutes rfl rfl rfl
theorem dX5_commutes_75 : decode cX5_commutes 75 = .ok (.iload 4, 2) := k_21 zcX5_commutes rfl rfl rfl
theorem dX5_commutes_77 : decode cX5_commutes 77 = .ok (.iload_n 2, 1) := k_28 zcX5_commutes rfl rfl
theorem dX5_commutes_78 : decode cX5_commutes 78 = .ok (.iconst 1, 1) := k_4 zcX5_commutes rfl rfl
theorem dX5_commutes_79 : decode cX5_commutes 79 = .ok (.iadd, 1) := k_96 zcX5_commutes rfl rfl
theorem dX5_commutes_80 : decode cX5_commutes 80 = .ok (.if_icmp .ne 7, 3) := k_160 zcX5_commutes rfl rfl rfl
theorem dX5_commutes_83 : decode cX5_commutes 83 = .ok (.iload_n 2, 1) := k_28 zcX5_commutes rfl rfl
theorem dX5_commutes_84 : decode cX5_commutes 84 = .ok (.goto 5, 3) := k_167 zcX5_commutes rfl rfl rfl
theorem dX5_commutes_87 : decode cX5_commutes 87 = .ok (.iload 4, 2) := k_21 zcX5_commutes rfl rfl rfl
theorem dX5_commutes_89 : decode cX5_commutes 89 = .ok (.istore 5, 2) := k_54 zcX5_commutes rfl rfl rfl
theorem dX5_commutes_91 : decode cX5_commutes 91 = .ok (.aload_n 0, 1) := k_42 zcX5_commutes rfl rfl
theorem dX5_commutes_92 : decode cX5_commutes 92 = .ok (.getfield 40, 3) := k_180 zcX5_commutes rfl rfl rfl
theorem dX5_commutes_95 : decode cX5_commutes 95 = .ok (.aload_n 3, 1) := k_45 zcX5_commutes rfl rfl
theorem dX5_commutes_96 : decode cX5_commutes 96 = .ok (.getfield 176, 3) := k_180 zcX5_commutes rfl rfl rfl
theorem dX5_commutes_99 : decode cX5_commutes 99 = .ok (.iload 5, 2) := k_21 zcX5_commutes rfl rfl rfl
theorem dX5_commutes_101 : decode cX5_commutes 101 = .ok (.iaload, 1) := k_46 zcX5_commutes rfl rfl
theorem dX5_commutes_102 : decode cX5_commutes 102 = .ok (.invokevirtual 253, 3) := k_182 zcX5_commutes rfl rfl rfl
theorem dX5_commutes_105 : decode cX5_commutes 105 = .ok (.iinc 4 1, 3) := k_132 zcX5_commutes rfl rfl rfl rfl
theorem dX5_commutes_108 : decode cX5_commutes 108 = .ok (.goto (-54), 3) := k_167 zcX5_commutes rfl rfl rfl
theorem dX5_commutes_111 : decode cX5_commutes 111 = .ok (.aload_n 0, 1) := k_42 zcX5_commutes rfl rfl
theorem dX5_commutes_112 : decode cX5_commutes 112 = .ok (.getfield 40, 3) := k_180 zcX5_commutes rfl rfl rfl
theorem dX5_commutes_115 : decode cX5_commutes 115 = .ok (.invokevirtual 278, 3) := k_182 zcX5_commutes rfl rfl rfl
theorem dX5_commutes_118 : decode cX5_commutes 118 = .ok (.ifCond .eq 7, 3) := k_153 zcX5_commutes rfl rfl rfl
theorem dX5_commutes_121 : decode cX5_commutes 121 = .ok (.iconst 1, 1) := k_4 zcX5_commutes rfl rfl
theorem dX5_commutes_122 : decode cX5_commutes 122 = .ok (.goto 4, 3) := k_167 zcX5_commutes rfl rfl rfl
theorem dX5_commutes_125 : decode cX5_commutes 125 = .ok (.iconst 0, 1) := k_3 zcX5_commutes rfl rfl
theorem dX5_commutes_126 : decode cX5_commutes 126 = .ok (.ireturn, 1) := k_172 zcX5_commutes rfl rfl
theorem dX5_law_0 : decode cX5_law 0 = .ok (.iload_n 2, 1) := k_28 zcX5_law rfl rfl
theorem dX5_law_1 : decode cX5_law 1 = .ok (.iconst 0, 1) := k_3 zcX5_law rfl rfl
theorem dX5_law_2 : decode cX5_law 2 = .ok (.iconst 2, 1) := k_5 zcX5_law rfl rfl
theorem dX5_law_3 : decode cX5_law 3 = .ok (.invokestatic 59, 3) := k_184 zcX5_law rfl rfl rfl
theorem dX5_law_6 : decode cX5_law 6 = .ok (.ifCond .eq 12, 3) := k_153 zcX5_law rfl rfl rfl
theorem dX5_law_9 : decode cX5_law 9 = .ok (.aload_n 0, 1) := k_42 zcX5_law rfl rfl
theorem dX5_law_10 : decode cX5_law 10 = .ok (.iload_n 1, 1) := k_27 zcX5_law rfl rfl
theorem dX5_law_11 : decode cX5_law 11 = .ok (.iload_n 3, 1) := k_29 zcX5_law rfl rfl
theorem dX5_law_12 : decode cX5_law 12 = .ok (.invokevirtual 281, 3) := k_182 zcX5_law rfl rfl rfl
theorem dX5_law_15 : decode cX5_law 15 = .ok (.goto 5, 3) := k_167 zcX5_law rfl rfl rfl
theorem dX5_law_18 : decode cX5_law 18 = .ok (.ldc 175, 2) := k_18 zcX5_law rfl rfl rfl
theorem dX5_law_20 : decode cX5_law 20 = .ok (.ireturn, 1) := k_172 zcX5_law rfl rfl
theorem dX5_joined_0 : decode cX5_joined 0 = .ok (.aload_n 0, 1) := k_42 zcX5_joined rfl rfl
theorem dX5_joined_1 : decode cX5_joined 1 = .ok (.iload_n 1, 1) := k_27 zcX5_joined rfl rfl
theorem dX5_joined_2 : decode cX5_joined 2 = .ok (.iload_n 3, 1) := k_29 zcX5_joined rfl rfl
theorem dX5_joined_3 : decode cX5_joined 3 = .ok (.invokevirtual 248, 3) := k_182 zcX5_joined rfl rfl rfl
theorem dX5_joined_6 : decode cX5_joined 6 = .ok (.astore 4, 2) := k_58 zcX5_joined rfl rfl rfl
theorem dX5_joined_8 : decode cX5_joined 8 = .ok (.aload_n 0, 1) := k_42 zcX5_joined rfl rfl
theorem dX5_joined_9 : decode cX5_joined 9 = .ok (.iload_n 2, 1) := k_28 zcX5_joined rfl rfl
theorem dX5_joined_10 : decode cX5_joined 10 = .ok (.invokevirtual 123, 3) := k_182 zcX5_joined rfl rfl rfl
theorem dX5_joined_13 : decode cX5_joined 13 = .ok (.astore 5, 2) := k_58 zcX5_joined rfl rfl rfl
theorem dX5_joined_15 : decode cX5_joined 15 = .ok (.aload 4, 2) := k_25 zcX5_joined rfl rfl rfl
theorem dX5_joined_17 : decode cX5_joined 17 = .ok (.ifnull 21, 3) := k_198 zcX5_joined rfl rfl rfl
theorem dX5_joined_20 : decode cX5_joined 20 = .ok (.aload 5, 2) := k_25 zcX5_joined rfl rfl rfl
theorem dX5_joined_22 : decode cX5_joined 22 = .ok (.ifnull 16, 3) := k_198 zcX5_joined rfl rfl rfl
theorem dX5_joined_25 : decode cX5_joined 25 = .ok (.aload 4, 2) := k_25 zcX5_joined rfl rfl rfl
theorem dX5_joined_27 : decode cX5_joined 27 = .ok (.getfield 98, 3) := k_180 zcX5_joined rfl rfl rfl
theorem dX5_joined_30 : decode cX5_joined 30 = .ok (.aload 5, 2) := k_25 zcX5_joined rfl rfl rfl
theorem dX5_joined_32 : decode cX5_joined 32 = .ok (.getfield 98, 3) := k_180 zcX5_joined rfl rfl rfl
theorem dX5_joined_35 : decode cX5_joined 35 = .ok (.if_icmp .eq 6, 3) := k_159 zcX5_joined rfl rfl rfl
theorem dX5_joined_38 : decode cX5_joined 38 = .ok (.ldc 175, 2) := k_18 zcX5_joined rfl rfl rfl
theorem dX5_joined_40 : decode cX5_joined 40 = .ok (.ireturn, 1) := k_172 zcX5_joined rfl rfl
theorem dX5_joined_41 : decode cX5_joined 41 = .ok (.aload_n 0, 1) := k_42 zcX5_joined rfl rfl
theorem dX5_joined_42 : decode cX5_joined 42 = .ok (.aload 4, 2) := k_25 zcX5_joined rfl rfl rfl
theorem dX5_joined_44 : decode cX5_joined 44 = .ok (.iconst 0, 1) := k_3 zcX5_joined rfl rfl
theorem dX5_joined_45 : decode cX5_joined 45 = .ok (.aload 4, 2) := k_25 zcX5_joined rfl rfl rfl
theorem dX5_joined_47 : decode cX5_joined 47 = .ok (.getfield 154, 3) := k_180 zcX5_joined rfl rfl rfl
theorem dX5_joined_50 : decode cX5_joined 50 = .ok (.invokevirtual 259, 3) := k_182 zcX5_joined rfl rfl rfl
theorem dX5_joined_53 : decode cX5_joined 53 = .ok (.iconst 0, 1) := k_3 zcX5_joined rfl rfl
theorem dX5_joined_54 : decode cX5_joined 54 = .ok (.istore 6, 2) := k_54 zcX5_joined rfl rfl rfl
theorem dX5_joined_56 : decode cX5_joined 56 = .ok (.iload 6, 2) := k_21 zcX5_joined rfl rfl rfl
theorem dX5_joined_58 : decode cX5_joined 58 = .ok (.aload 5, 2) := k_25 zcX5_joined rfl rfl rfl
theorem dX5_joined_60 : decode cX5_joined 60 = .ok (.getfield 154, 3) := k_180 zcX5_joined rfl rfl rfl
theorem dX5_joined_63 : decode cX5_joined 63 = .ok (.if_icmp .ge 24, 3) := k_162 zcX5_joined rfl rfl rfl
theorem dX5_joined_66 : decode cX5_joined 66 = .ok (.aload_n 0, 1) := k_42 zcX5_joined rfl rfl
theorem dX5_joined_67 : decode cX5_joined 67 = .ok (.getfield 40, 3) := k_180 zcX5_joined rfl rfl rfl
theorem dX5_joined_70 : decode cX5_joined 70 = .ok (.aload 5, 2) := k_25 zcX5_joined rfl rfl rfl
theorem dX5_joined_72 : decode cX5_joined 72 = .ok (.getfield 176, 3) := k_180 zcX5_joined rfl rfl rfl
theorem dX5_joined_75 : decode cX5_joined 75 = .ok (.iload 6, 2) := k_21 zcX5_joined rfl rfl rfl
theorem dX5_joined_77 : decode cX5_joined 77 = .ok (.iaload, 1) := k_46 zcX5_joined rfl rfl
theorem dX5_joined_78 : decode cX5_joined 78 = .ok (.invokevirtual 253, 3) := k_182 zcX5_joined rfl rfl rfl
theorem dX5_joined_81 : decode cX5_joined 81 = .ok (.iinc 6 1, 3) := k_132 zcX5_joined rfl rfl rfl rfl
theorem dX5_joined_84 : decode cX5_joined 84 = .ok (.goto (-28), 3) := k_167 zcX5_joined rfl rfl rfl
theorem dX5_joined_87 : decode cX5_joined 87 = .ok (.aload_n 0, 1) := k_42 zcX5_joined rfl rfl
theorem dX5_joined_88 : decode cX5_joined 88 = .ok (.getfield 40, 3) := k_180 zcX5_joined rfl rfl rfl
theorem dX5_joined_91 : decode cX5_joined 91 = .ok (.iload_n 3, 1) := k_29 zcX5_joined rfl rfl
theorem dX5_joined_92 : decode cX5_joined 92 = .ok (.invokevirtual 273, 3) := k_182 zcX5_joined rfl rfl rfl
theorem dX5_joined_95 : decode cX5_joined 95 = .ok (.ireturn, 1) := k_172 zcX5_joined rfl rfl
theorem dX5_woven_0 : decode cX5_woven 0 = .ok (.aload_n 0, 1) := k_42 zcX5_woven rfl rfl
theorem dX5_woven_1 : decode cX5_woven 1 = .ok (.iload_n 1, 1) := k_27 zcX5_woven rfl rfl
theorem dX5_woven_2 : decode cX5_woven 2 = .ok (.iload_n 3, 1) := k_29 zcX5_woven rfl rfl
theorem dX5_woven_3 : decode cX5_woven 3 = .ok (.invokevirtual 248, 3) := k_182 zcX5_woven rfl rfl rfl
theorem dX5_woven_6 : decode cX5_woven 6 = .ok (.astore 4, 2) := k_58 zcX5_woven rfl rfl rfl
theorem dX5_woven_8 : decode cX5_woven 8 = .ok (.aload_n 0, 1) := k_42 zcX5_woven rfl rfl
theorem dX5_woven_9 : decode cX5_woven 9 = .ok (.iload_n 2, 1) := k_28 zcX5_woven rfl rfl
theorem dX5_woven_10 : decode cX5_woven 10 = .ok (.invokevirtual 123, 3) := k_182 zcX5_woven rfl rfl rfl
theorem dX5_woven_13 : decode cX5_woven 13 = .ok (.astore 5, 2) := k_58 zcX5_woven rfl rfl rfl
theorem dX5_woven_15 : decode cX5_woven 15 = .ok (.aload 4, 2) := k_25 zcX5_woven rfl rfl rfl
theorem dX5_woven_17 : decode cX5_woven 17 = .ok (.ifnull 21, 3) := k_198 zcX5_woven rfl rfl rfl
theorem dX5_woven_20 : decode cX5_woven 20 = .ok (.aload 5, 2) := k_25 zcX5_woven rfl rfl rfl
theorem dX5_woven_22 : decode cX5_woven 22 = .ok (.ifnull 16, 3) := k_198 zcX5_woven rfl rfl rfl
theorem dX5_woven_25 : decode cX5_woven 25 = .ok (.aload 4, 2) := k_25 zcX5_woven rfl rfl rfl
theorem dX5_woven_27 : decode cX5_woven 27 = .ok (.getfield 98, 3) := k_180 zcX5_woven rfl rfl rfl
theorem dX5_woven_30 : decode cX5_woven 30 = .ok (.aload 5, 2) := k_25 zcX5_woven rfl rfl rfl
theorem dX5_woven_32 : decode cX5_woven 32 = .ok (.getfield 98, 3) := k_180 zcX5_woven rfl rfl rfl
theorem dX5_woven_35 : decode cX5_woven 35 = .ok (.if_icmp .eq 6, 3) := k_159 zcX5_woven rfl rfl rfl
theorem dX5_woven_38 : decode cX5_woven 38 = .ok (.ldc 175, 2) := k_18 zcX5_woven rfl rfl rfl
theorem dX5_woven_40 : decode cX5_woven 40 = .ok (.ireturn, 1) := k_172 zcX5_woven rfl rfl
theorem dX5_woven_41 : decode cX5_woven 41 = .ok (.aload_n 0, 1) := k_42 zcX5_woven rfl rfl
theorem dX5_woven_42 : decode cX5_woven 42 = .ok (.getfield 40, 3) := k_180 zcX5_woven rfl rfl rfl
theorem dX5_woven_45 : decode cX5_woven 45 = .ok (.aload 4, 2) := k_25 zcX5_woven rfl rfl rfl
theorem dX5_woven_47 : decode cX5_woven 47 = .ok (.getfield 98, 3) := k_180 zcX5_woven rfl rfl rfl
theorem dX5_woven_50 : decode cX5_woven 50 = .ok (.invokevirtual 251, 3) := k_182 zcX5_woven rfl rfl rfl
theorem dX5_woven_53 : decode cX5_woven 53 = .ok (.iconst 0, 1) := k_3 zcX5_woven rfl rfl
theorem dX5_woven_54 : decode cX5_woven 54 = .ok (.istore 6, 2) := k_54 zcX5_woven rfl rfl rfl
theorem dX5_woven_56 : decode cX5_woven 56 = .ok (.iconst 0, 1) := k_3 zcX5_woven rfl rfl
theorem dX5_woven_57 : decode cX5_woven 57 = .ok (.istore 7, 2) := k_54 zcX5_woven rfl rfl rfl
theorem dX5_woven_59 : decode cX5_woven 59 = .ok (.aload 4, 2) := k_25 zcX5_woven rfl rfl rfl
theorem dX5_woven_61 : decode cX5_woven 61 = .ok (.getfield 154, 3) := k_180 zcX5_woven rfl rfl rfl
theorem dX5_woven_64 : decode cX5_woven 64 = .ok (.aload 5, 2) := k_25 zcX5_woven rfl rfl rfl
theorem dX5_woven_66 : decode cX5_woven 66 = .ok (.getfield 154, 3) := k_180 zcX5_woven rfl rfl rfl
theorem dX5_woven_69 : decode cX5_woven 69 = .ok (.iadd, 1) := k_96 zcX5_woven rfl rfl
theorem dX5_woven_70 : decode cX5_woven 70 = .ok (.istore 8, 2) := k_54 zcX5_woven rfl rfl rfl
theorem dX5_woven_72 : decode cX5_woven 72 = .ok (.iload 8, 2) := k_21 zcX5_woven rfl rfl rfl
theorem dX5_woven_74 : decode cX5_woven 74 = .ok (.ifCond .le 116, 3) := k_158 zcX5_woven rfl rfl rfl
theorem dX5_woven_77 : decode cX5_woven 77 = .ok (.iload 7, 2) := k_21 zcX5_woven rfl rfl rfl
theorem dX5_woven_79 : decode cX5_woven 79 = .ok (.aload 5, 2) := k_25 zcX5_woven rfl rfl rfl
theorem dX5_woven_81 : decode cX5_woven 81 = .ok (.getfield 154, 3) := k_180 zcX5_woven rfl rfl rfl
theorem dX5_woven_84 : decode cX5_woven 84 = .ok (.if_icmp .ge 32, 3) := k_162 zcX5_woven rfl rfl rfl
theorem dX5_woven_87 : decode cX5_woven 87 = .ok (.iload 6, 2) := k_21 zcX5_woven rfl rfl rfl
theorem dX5_woven_89 : decode cX5_woven 89 = .ok (.aload 4, 2) := k_25 zcX5_woven rfl rfl rfl
theorem dX5_woven_91 : decode cX5_woven 91 = .ok (.getfield 154, 3) := k_180 zcX5_woven rfl rfl rfl
theorem dX5_woven_94 : decode cX5_woven 94 = .ok (.if_icmp .ge 26, 3) := k_162 zcX5_woven rfl rfl rfl
theorem dX5_woven_97 : decode cX5_woven 97 = .ok (.aload 4, 2) := k_25 zcX5_woven rfl rfl rfl
theorem dX5_woven_99 : decode cX5_woven 99 = .ok (.getfield 198, 3) := k_180 zcX5_woven rfl rfl rfl
theorem dX5_woven_102 : decode cX5_woven 102 = .ok (.iload 6, 2) := k_21 zcX5_woven rfl rfl rfl
theorem dX5_woven_104 : decode cX5_woven 104 = .ok (.iaload, 1) := k_46 zcX5_woven rfl rfl
theorem dX5_woven_105 : decode cX5_woven 105 = .ok (.aload 5, 2) := k_25 zcX5_woven rfl rfl rfl
theorem dX5_woven_107 : decode cX5_woven 107 = .ok (.getfield 198, 3) := k_180 zcX5_woven rfl rfl rfl
theorem dX5_woven_110 : decode cX5_woven 110 = .ok (.iload 7, 2) := k_21 zcX5_woven rfl rfl rfl
theorem dX5_woven_112 : decode cX5_woven 112 = .ok (.iaload, 1) := k_46 zcX5_woven rfl rfl
theorem dX5_woven_113 : decode cX5_woven 113 = .ok (.if_icmp .gt 7, 3) := k_163 zcX5_woven rfl rfl rfl
theorem dX5_woven_116 : decode cX5_woven 116 = .ok (.iconst 1, 1) := k_4 zcX5_woven rfl rfl
theorem dX5_woven_117 : decode cX5_woven 117 = .ok (.goto 4, 3) := k_167 zcX5_woven rfl rfl rfl
theorem dX5_woven_120 : decode cX5_woven 120 = .ok (.iconst 0, 1) := k_3 zcX5_woven rfl rfl
theorem dX5_woven_121 : decode cX5_woven 121 = .ok (.istore 9, 2) := k_54 zcX5_woven rfl rfl rfl
theorem dX5_woven_123 : decode cX5_woven 123 = .ok (.aload_n 0, 1) := k_42 zcX5_woven rfl rfl
theorem dX5_woven_124 : decode cX5_woven 124 = .ok (.getfield 40, 3) := k_180 zcX5_woven rfl rfl rfl
theorem dX5_woven_127 : decode cX5_woven 127 = .ok (.iload 9, 2) := k_21 zcX5_woven rfl rfl rfl
theorem dX5_woven_129 : decode cX5_woven 129 = .ok (.ifCond .eq 14, 3) := k_153 zcX5_woven rfl rfl rfl
theorem dX5_woven_132 : decode cX5_woven 132 = .ok (.aload 4, 2) := k_25 zcX5_woven rfl rfl rfl
theorem dX5_woven_134 : decode cX5_woven 134 = .ok (.getfield 176, 3) := k_180 zcX5_woven rfl rfl rfl
theorem dX5_woven_137 : decode cX5_woven 137 = .ok (.iload 6, 2) := k_21 zcX5_woven rfl rfl rfl
theorem dX5_woven_139 : decode cX5_woven 139 = .ok (.iaload, 1) := k_46 zcX5_woven rfl rfl
theorem dX5_woven_140 : decode cX5_woven 140 = .ok (.goto 11, 3) := k_167 zcX5_woven rfl rfl rfl
theorem dX5_woven_143 : decode cX5_woven 143 = .ok (.aload 5, 2) := k_25 zcX5_woven rfl rfl rfl
theorem dX5_woven_145 : decode cX5_woven 145 = .ok (.getfield 176, 3) := k_180 zcX5_woven rfl rfl rfl
theorem dX5_woven_148 : decode cX5_woven 148 = .ok (.iload 7, 2) := k_21 zcX5_woven rfl rfl rfl
theorem dX5_woven_150 : decode cX5_woven 150 = .ok (.iaload, 1) := k_46 zcX5_woven rfl rfl
theorem dX5_woven_151 : decode cX5_woven 151 = .ok (.invokevirtual 253, 3) := k_182 zcX5_woven rfl rfl rfl
theorem dX5_woven_154 : decode cX5_woven 154 = .ok (.iload 6, 2) := k_21 zcX5_woven rfl rfl rfl
theorem dX5_woven_156 : decode cX5_woven 156 = .ok (.iload 9, 2) := k_21 zcX5_woven rfl rfl rfl
theorem dX5_woven_158 : decode cX5_woven 158 = .ok (.ifCond .eq 7, 3) := k_153 zcX5_woven rfl rfl rfl
theorem dX5_woven_161 : decode cX5_woven 161 = .ok (.iconst 1, 1) := k_4 zcX5_woven rfl rfl
theorem dX5_woven_162 : decode cX5_woven 162 = .ok (.goto 4, 3) := k_167 zcX5_woven rfl rfl rfl
theorem dX5_woven_165 : decode cX5_woven 165 = .ok (.iconst 0, 1) := k_3 zcX5_woven rfl rfl
theorem dX5_woven_166 : decode cX5_woven 166 = .ok (.iadd, 1) := k_96 zcX5_woven rfl rfl
theorem dX5_woven_167 : decode cX5_woven 167 = .ok (.istore 6, 2) := k_54 zcX5_woven rfl rfl rfl
theorem dX5_woven_169 : decode cX5_woven 169 = .ok (.iload 7, 2) := k_21 zcX5_woven rfl rfl rfl
theorem dX5_woven_171 : decode cX5_woven 171 = .ok (.iload 9, 2) := k_21 zcX5_woven rfl rfl rfl
theorem dX5_woven_173 : decode cX5_woven 173 = .ok (.ifCond .eq 7, 3) := k_153 zcX5_woven rfl rfl rfl
theorem dX5_woven_176 : decode cX5_woven 176 = .ok (.iconst 0, 1) := k_3 zcX5_woven rfl rfl
theorem dX5_woven_177 : decode cX5_woven 177 = .ok (.goto 4, 3) := k_167 zcX5_woven rfl rfl rfl
theorem dX5_woven_180 : decode cX5_woven 180 = .ok (.iconst 1, 1) := k_4 zcX5_woven rfl rfl
theorem dX5_woven_181 : decode cX5_woven 181 = .ok (.iadd, 1) := k_96 zcX5_woven rfl rfl
theorem dX5_woven_182 : decode cX5_woven 182 = .ok (.istore 7, 2) := k_54 zcX5_woven rfl rfl rfl
theorem dX5_woven_184 : decode cX5_woven 184 = .ok (.iinc 8 (-1), 3) := k_132 zcX5_woven rfl rfl rfl rfl
theorem dX5_woven_187 : decode cX5_woven 187 = .ok (.goto (-115), 3) := k_167 zcX5_woven rfl rfl rfl
theorem dX5_woven_190 : decode cX5_woven 190 = .ok (.aload_n 0, 1) := k_42 zcX5_woven rfl rfl
theorem dX5_woven_191 : decode cX5_woven 191 = .ok (.getfield 40, 3) := k_180 zcX5_woven rfl rfl rfl
theorem dX5_woven_194 : decode cX5_woven 194 = .ok (.iload_n 3, 1) := k_29 zcX5_woven rfl rfl
theorem dX5_woven_195 : decode cX5_woven 195 = .ok (.invokevirtual 273, 3) := k_182 zcX5_woven rfl rfl rfl
theorem dX5_woven_198 : decode cX5_woven 198 = .ok (.ireturn, 1) := k_172 zcX5_woven rfl rfl
theorem dX5_same_0 : decode cX5_same 0 = .ok (.aload_n 0, 1) := k_42 zcX5_same rfl rfl
theorem dX5_same_1 : decode cX5_same 1 = .ok (.iload_n 1, 1) := k_27 zcX5_same rfl rfl
theorem dX5_same_2 : decode cX5_same 2 = .ok (.invokevirtual 123, 3) := k_182 zcX5_same rfl rfl rfl
theorem dX5_same_5 : decode cX5_same 5 = .ok (.astore_n 3, 1) := k_78 zcX5_same rfl rfl
theorem dX5_same_6 : decode cX5_same 6 = .ok (.aload_n 0, 1) := k_42 zcX5_same rfl rfl
theorem dX5_same_7 : decode cX5_same 7 = .ok (.iload_n 2, 1) := k_28 zcX5_same rfl rfl
theorem dX5_same_8 : decode cX5_same 8 = .ok (.invokevirtual 123, 3) := k_182 zcX5_same rfl rfl rfl
theorem dX5_same_11 : decode cX5_same 11 = .ok (.astore 4, 2) := k_58 zcX5_same rfl rfl rfl
theorem dX5_same_13 : decode cX5_same 13 = .ok (.aload_n 3, 1) := k_45 zcX5_same rfl rfl
theorem dX5_same_14 : decode cX5_same 14 = .ok (.ifnull 20, 3) := k_198 zcX5_same rfl rfl rfl
theorem dX5_same_17 : decode cX5_same 17 = .ok (.aload 4, 2) := k_25 zcX5_same rfl rfl rfl
theorem dX5_same_19 : decode cX5_same 19 = .ok (.ifnull 15, 3) := k_198 zcX5_same rfl rfl rfl
theorem dX5_same_22 : decode cX5_same 22 = .ok (.aload_n 3, 1) := k_45 zcX5_same rfl rfl
theorem dX5_same_23 : decode cX5_same 23 = .ok (.getfield 98, 3) := k_180 zcX5_same rfl rfl rfl
theorem dX5_same_26 : decode cX5_same 26 = .ok (.aload 4, 2) := k_25 zcX5_same rfl rfl rfl
theorem dX5_same_28 : decode cX5_same 28 = .ok (.getfield 98, 3) := k_180 zcX5_same rfl rfl rfl
theorem dX5_same_31 : decode cX5_same 31 = .ok (.if_icmp .eq 5, 3) := k_159 zcX5_same rfl rfl rfl
theorem dX5_same_34 : decode cX5_same 34 = .ok (.iconst (-1), 1) := k_2 zcX5_same rfl rfl
theorem dX5_same_35 : decode cX5_same 35 = .ok (.ireturn, 1) := k_172 zcX5_same rfl rfl
theorem dX5_same_36 : decode cX5_same 36 = .ok (.aload_n 0, 1) := k_42 zcX5_same rfl rfl
theorem dX5_same_37 : decode cX5_same 37 = .ok (.aload_n 3, 1) := k_45 zcX5_same rfl rfl
theorem dX5_same_38 : decode cX5_same 38 = .ok (.iconst 0, 1) := k_3 zcX5_same rfl rfl
theorem dX5_same_39 : decode cX5_same 39 = .ok (.aload_n 3, 1) := k_45 zcX5_same rfl rfl
theorem dX5_same_40 : decode cX5_same 40 = .ok (.getfield 154, 3) := k_180 zcX5_same rfl rfl rfl
theorem dX5_same_43 : decode cX5_same 43 = .ok (.invokevirtual 259, 3) := k_182 zcX5_same rfl rfl rfl
theorem dX5_same_46 : decode cX5_same 46 = .ok (.aload_n 0, 1) := k_42 zcX5_same rfl rfl
theorem dX5_same_47 : decode cX5_same 47 = .ok (.getfield 40, 3) := k_180 zcX5_same rfl rfl rfl
theorem dX5_same_50 : decode cX5_same 50 = .ok (.invokevirtual 275, 3) := k_182 zcX5_same rfl rfl rfl
theorem dX5_same_53 : decode cX5_same 53 = .ok (.aload_n 0, 1) := k_42 zcX5_same rfl rfl
theorem dX5_same_54 : decode cX5_same 54 = .ok (.aload 4, 2) := k_25 zcX5_same rfl rfl rfl
theorem dX5_same_56 : decode cX5_same 56 = .ok (.iconst 0, 1) := k_3 zcX5_same rfl rfl
theorem dX5_same_57 : decode cX5_same 57 = .ok (.aload 4, 2) := k_25 zcX5_same rfl rfl rfl
theorem dX5_same_59 : decode cX5_same 59 = .ok (.getfield 154, 3) := k_180 zcX5_same rfl rfl rfl
theorem dX5_same_62 : decode cX5_same 62 = .ok (.invokevirtual 259, 3) := k_182 zcX5_same rfl rfl rfl
theorem dX5_same_65 : decode cX5_same 65 = .ok (.aload_n 0, 1) := k_42 zcX5_same rfl rfl
theorem dX5_same_66 : decode cX5_same 66 = .ok (.getfield 40, 3) := k_180 zcX5_same rfl rfl rfl
theorem dX5_same_69 : decode cX5_same 69 = .ok (.invokevirtual 278, 3) := k_182 zcX5_same rfl rfl rfl
theorem dX5_same_72 : decode cX5_same 72 = .ok (.ifCond .eq 7, 3) := k_153 zcX5_same rfl rfl rfl
theorem dX5_same_75 : decode cX5_same 75 = .ok (.iconst 1, 1) := k_4 zcX5_same rfl rfl
theorem dX5_same_76 : decode cX5_same 76 = .ok (.goto 4, 3) := k_167 zcX5_same rfl rfl rfl
theorem dX5_same_79 : decode cX5_same 79 = .ok (.iconst 0, 1) := k_3 zcX5_same rfl rfl
theorem dX5_same_80 : decode cX5_same 80 = .ok (.ireturn, 1) := k_172 zcX5_same rfl rfl
theorem dX5_panes_0 : decode cX5_panes 0 = .ok (.aload_n 0, 1) := k_42 zcX5_panes rfl rfl
theorem dX5_panes_1 : decode cX5_panes 1 = .ok (.iload_n 1, 1) := k_27 zcX5_panes rfl rfl
theorem dX5_panes_2 : decode cX5_panes 2 = .ok (.invokevirtual 123, 3) := k_182 zcX5_panes rfl rfl rfl
theorem dX5_panes_5 : decode cX5_panes 5 = .ok (.astore_n 3, 1) := k_78 zcX5_panes rfl rfl
theorem dX5_panes_6 : decode cX5_panes 6 = .ok (.aload_n 3, 1) := k_45 zcX5_panes rfl rfl
theorem dX5_panes_7 : decode cX5_panes 7 = .ok (.ifnull 14, 3) := k_198 zcX5_panes rfl rfl rfl
theorem dX5_panes_10 : decode cX5_panes 10 = .ok (.iload_n 2, 1) := k_28 zcX5_panes rfl rfl
theorem dX5_panes_11 : decode cX5_panes 11 = .ok (.iconst 1, 1) := k_4 zcX5_panes rfl rfl
theorem dX5_panes_12 : decode cX5_panes 12 = .ok (.ldc_w 284, 3) := k_19 zcX5_panes rfl rfl rfl
theorem dX5_panes_15 : decode cX5_panes 15 = .ok (.invokestatic 59, 3) := k_184 zcX5_panes rfl rfl rfl
theorem dX5_panes_18 : decode cX5_panes 18 = .ok (.ifCond .ne 5, 3) := k_154 zcX5_panes rfl rfl rfl
theorem dX5_panes_21 : decode cX5_panes 21 = .ok (.iconst (-1), 1) := k_2 zcX5_panes rfl rfl
theorem dX5_panes_22 : decode cX5_panes 22 = .ok (.ireturn, 1) := k_172 zcX5_panes rfl rfl
theorem dX5_panes_23 : decode cX5_panes 23 = .ok (.iconst 0, 1) := k_3 zcX5_panes rfl rfl
theorem dX5_panes_24 : decode cX5_panes 24 = .ok (.istore 4, 2) := k_54 zcX5_panes rfl rfl rfl
theorem dX5_panes_26 : decode cX5_panes 26 = .ok (.iconst (-1), 1) := k_2 zcX5_panes rfl rfl
theorem dX5_panes_27 : decode cX5_panes 27 = .ok (.istore 5, 2) := k_54 zcX5_panes rfl rfl rfl
theorem dX5_panes_29 : decode cX5_panes 29 = .ok (.iconst 0, 1) := k_3 zcX5_panes rfl rfl
theorem dX5_panes_30 : decode cX5_panes 30 = .ok (.istore 6, 2) := k_54 zcX5_panes rfl rfl rfl
theorem dX5_panes_32 : decode cX5_panes 32 = .ok (.iload 6, 2) := k_21 zcX5_panes rfl rfl rfl
theorem dX5_panes_34 : decode cX5_panes 34 = .ok (.aload_n 3, 1) := k_45 zcX5_panes rfl rfl
theorem dX5_panes_35 : decode cX5_panes 35 = .ok (.getfield 154, 3) := k_180 zcX5_panes rfl rfl rfl
theorem dX5_panes_38 : decode cX5_panes 38 = .ok (.if_icmp .ge 41, 3) := k_162 zcX5_panes rfl rfl rfl
theorem dX5_panes_41 : decode cX5_panes 41 = .ok (.aload_n 3, 1) := k_45 zcX5_panes rfl rfl
theorem dX5_panes_42 : decode cX5_panes 42 = .ok (.getfield 198, 3) := k_180 zcX5_panes rfl rfl rfl
theorem dX5_panes_45 : decode cX5_panes 45 = .ok (.iload 6, 2) := k_21 zcX5_panes rfl rfl rfl
theorem dX5_panes_47 : decode cX5_panes 47 = .ok (.iaload, 1) := k_46 zcX5_panes rfl rfl
theorem dX5_panes_48 : decode cX5_panes 48 = .ok (.iload_n 2, 1) := k_28 zcX5_panes rfl rfl
theorem dX5_panes_49 : decode cX5_panes 49 = .ok (.idiv, 1) := k_108 zcX5_panes rfl rfl
theorem dX5_panes_50 : decode cX5_panes 50 = .ok (.istore 7, 2) := k_54 zcX5_panes rfl rfl rfl
theorem dX5_panes_52 : decode cX5_panes 52 = .ok (.iload 4, 2) := k_21 zcX5_panes rfl rfl rfl
theorem dX5_panes_54 : decode cX5_panes 54 = .ok (.iload 7, 2) := k_21 zcX5_panes rfl rfl rfl
theorem dX5_panes_56 : decode cX5_panes 56 = .ok (.iload 5, 2) := k_21 zcX5_panes rfl rfl rfl
theorem dX5_panes_58 : decode cX5_panes 58 = .ok (.if_icmp .eq 7, 3) := k_159 zcX5_panes rfl rfl rfl
theorem dX5_panes_61 : decode cX5_panes 61 = .ok (.iconst 1, 1) := k_4 zcX5_panes rfl rfl
theorem dX5_panes_62 : decode cX5_panes 62 = .ok (.goto 4, 3) := k_167 zcX5_panes rfl rfl rfl
theorem dX5_panes_65 : decode cX5_panes 65 = .ok (.iconst 0, 1) := k_3 zcX5_panes rfl rfl
theorem dX5_panes_66 : decode cX5_panes 66 = .ok (.iadd, 1) := k_96 zcX5_panes rfl rfl
theorem dX5_panes_67 : decode cX5_panes 67 = .ok (.istore 4, 2) := k_54 zcX5_panes rfl rfl rfl
theorem dX5_panes_69 : decode cX5_panes 69 = .ok (.iload 7, 2) := k_21 zcX5_panes rfl rfl rfl
theorem dX5_panes_71 : decode cX5_panes 71 = .ok (.istore 5, 2) := k_54 zcX5_panes rfl rfl rfl
theorem dX5_panes_73 : decode cX5_panes 73 = .ok (.iinc 6 1, 3) := k_132 zcX5_panes rfl rfl rfl rfl
theorem dX5_panes_76 : decode cX5_panes 76 = .ok (.goto (-44), 3) := k_167 zcX5_panes rfl rfl rfl
theorem dX5_panes_79 : decode cX5_panes 79 = .ok (.iload 4, 2) := k_21 zcX5_panes rfl rfl rfl
theorem dX5_panes_81 : decode cX5_panes 81 = .ok (.ireturn, 1) := k_172 zcX5_panes rfl rfl
theorem dX5_fullest_0 : decode cX5_fullest 0 = .ok (.aload_n 0, 1) := k_42 zcX5_fullest rfl rfl
theorem dX5_fullest_1 : decode cX5_fullest 1 = .ok (.iload_n 1, 1) := k_27 zcX5_fullest rfl rfl
theorem dX5_fullest_2 : decode cX5_fullest 2 = .ok (.invokevirtual 123, 3) := k_182 zcX5_fullest rfl rfl rfl
theorem dX5_fullest_5 : decode cX5_fullest 5 = .ok (.astore_n 3, 1) := k_78 zcX5_fullest rfl rfl
theorem dX5_fullest_6 : decode cX5_fullest 6 = .ok (.aload_n 3, 1) := k_45 zcX5_fullest rfl rfl
theorem dX5_fullest_7 : decode cX5_fullest 7 = .ok (.ifnull 14, 3) := k_198 zcX5_fullest rfl rfl rfl
theorem dX5_fullest_10 : decode cX5_fullest 10 = .ok (.iload_n 2, 1) := k_28 zcX5_fullest rfl rfl
theorem dX5_fullest_11 : decode cX5_fullest 11 = .ok (.iconst 1, 1) := k_4 zcX5_fullest rfl rfl
theorem dX5_fullest_12 : decode cX5_fullest 12 = .ok (.ldc_w 284, 3) := k_19 zcX5_fullest rfl rfl rfl
theorem dX5_fullest_15 : decode cX5_fullest 15 = .ok (.invokestatic 59, 3) := k_184 zcX5_fullest rfl rfl rfl
theorem dX5_fullest_18 : decode cX5_fullest 18 = .ok (.ifCond .ne 5, 3) := k_154 zcX5_fullest rfl rfl rfl
theorem dX5_fullest_21 : decode cX5_fullest 21 = .ok (.iconst (-1), 1) := k_2 zcX5_fullest rfl rfl
theorem dX5_fullest_22 : decode cX5_fullest 22 = .ok (.ireturn, 1) := k_172 zcX5_fullest rfl rfl
theorem dX5_fullest_23 : decode cX5_fullest 23 = .ok (.iconst (-1), 1) := k_2 zcX5_fullest rfl rfl
theorem dX5_fullest_24 : decode cX5_fullest 24 = .ok (.istore 4, 2) := k_54 zcX5_fullest rfl rfl rfl
theorem dX5_fullest_26 : decode cX5_fullest 26 = .ok (.iconst 0, 1) := k_3 zcX5_fullest rfl rfl
theorem dX5_fullest_27 : decode cX5_fullest 27 = .ok (.istore 5, 2) := k_54 zcX5_fullest rfl rfl rfl
theorem dX5_fullest_29 : decode cX5_fullest 29 = .ok (.iconst (-1), 1) := k_2 zcX5_fullest rfl rfl
theorem dX5_fullest_30 : decode cX5_fullest 30 = .ok (.istore 6, 2) := k_54 zcX5_fullest rfl rfl rfl
theorem dX5_fullest_32 : decode cX5_fullest 32 = .ok (.iconst 0, 1) := k_3 zcX5_fullest rfl rfl
theorem dX5_fullest_33 : decode cX5_fullest 33 = .ok (.istore 7, 2) := k_54 zcX5_fullest rfl rfl rfl
theorem dX5_fullest_35 : decode cX5_fullest 35 = .ok (.iconst 0, 1) := k_3 zcX5_fullest rfl rfl
theorem dX5_fullest_36 : decode cX5_fullest 36 = .ok (.istore 8, 2) := k_54 zcX5_fullest rfl rfl rfl
theorem dX5_fullest_38 : decode cX5_fullest 38 = .ok (.iload 8, 2) := k_21 zcX5_fullest rfl rfl rfl
theorem dX5_fullest_40 : decode cX5_fullest 40 = .ok (.aload_n 3, 1) := k_45 zcX5_fullest rfl rfl
theorem dX5_fullest_41 : decode cX5_fullest 41 = .ok (.getfield 154, 3) := k_180 zcX5_fullest rfl rfl rfl
theorem dX5_fullest_44 : decode cX5_fullest 44 = .ok (.if_icmp .ge 56, 3) := k_162 zcX5_fullest rfl rfl rfl
theorem dX5_fullest_47 : decode cX5_fullest 47 = .ok (.aload_n 3, 1) := k_45 zcX5_fullest rfl rfl
theorem dX5_fullest_48 : decode cX5_fullest 48 = .ok (.getfield 198, 3) := k_180 zcX5_fullest rfl rfl rfl
theorem dX5_fullest_51 : decode cX5_fullest 51 = .ok (.iload 8, 2) := k_21 zcX5_fullest rfl rfl rfl
theorem dX5_fullest_53 : decode cX5_fullest 53 = .ok (.iaload, 1) := k_46 zcX5_fullest rfl rfl
theorem dX5_fullest_54 : decode cX5_fullest 54 = .ok (.iload_n 2, 1) := k_28 zcX5_fullest rfl rfl
theorem dX5_fullest_55 : decode cX5_fullest 55 = .ok (.idiv, 1) := k_108 zcX5_fullest rfl rfl
theorem dX5_fullest_56 : decode cX5_fullest 56 = .ok (.istore 9, 2) := k_54 zcX5_fullest rfl rfl rfl
theorem dX5_fullest_58 : decode cX5_fullest 58 = .ok (.iload 9, 2) := k_21 zcX5_fullest rfl rfl rfl
theorem dX5_fullest_60 : decode cX5_fullest 60 = .ok (.iload 6, 2) := k_21 zcX5_fullest rfl rfl rfl
theorem dX5_fullest_62 : decode cX5_fullest 62 = .ok (.if_icmp .ne 10, 3) := k_160 zcX5_fullest rfl rfl rfl
theorem dX5_fullest_65 : decode cX5_fullest 65 = .ok (.iload 7, 2) := k_21 zcX5_fullest rfl rfl rfl
theorem dX5_fullest_67 : decode cX5_fullest 67 = .ok (.iconst 1, 1) := k_4 zcX5_fullest rfl rfl
theorem dX5_fullest_68 : decode cX5_fullest 68 = .ok (.iadd, 1) := k_96 zcX5_fullest rfl rfl
theorem dX5_fullest_69 : decode cX5_fullest 69 = .ok (.goto 4, 3) := k_167 zcX5_fullest rfl rfl rfl
theorem dX5_fullest_72 : decode cX5_fullest 72 = .ok (.iconst 1, 1) := k_4 zcX5_fullest rfl rfl
theorem dX5_fullest_73 : decode cX5_fullest 73 = .ok (.istore 7, 2) := k_54 zcX5_fullest rfl rfl rfl
theorem dX5_fullest_75 : decode cX5_fullest 75 = .ok (.iload 9, 2) := k_21 zcX5_fullest rfl rfl rfl
theorem dX5_fullest_77 : decode cX5_fullest 77 = .ok (.istore 6, 2) := k_54 zcX5_fullest rfl rfl rfl
theorem dX5_fullest_79 : decode cX5_fullest 79 = .ok (.iload 7, 2) := k_21 zcX5_fullest rfl rfl rfl
theorem dX5_fullest_81 : decode cX5_fullest 81 = .ok (.iload 5, 2) := k_21 zcX5_fullest rfl rfl rfl
theorem dX5_fullest_83 : decode cX5_fullest 83 = .ok (.if_icmp .le 11, 3) := k_164 zcX5_fullest rfl rfl rfl
theorem dX5_fullest_86 : decode cX5_fullest 86 = .ok (.iload 7, 2) := k_21 zcX5_fullest rfl rfl rfl
theorem dX5_fullest_88 : decode cX5_fullest 88 = .ok (.istore 5, 2) := k_54 zcX5_fullest rfl rfl rfl
theorem dX5_fullest_90 : decode cX5_fullest 90 = .ok (.iload 9, 2) := k_21 zcX5_fullest rfl rfl rfl
theorem dX5_fullest_92 : decode cX5_fullest 92 = .ok (.istore 4, 2) := k_54 zcX5_fullest rfl rfl rfl
theorem dX5_fullest_94 : decode cX5_fullest 94 = .ok (.iinc 8 1, 3) := k_132 zcX5_fullest rfl rfl rfl rfl
theorem dX5_fullest_97 : decode cX5_fullest 97 = .ok (.goto (-59), 3) := k_167 zcX5_fullest rfl rfl rfl
theorem dX5_fullest_100 : decode cX5_fullest 100 = .ok (.iload 4, 2) := k_21 zcX5_fullest rfl rfl rfl
theorem dX5_fullest_102 : decode cX5_fullest 102 = .ok (.ireturn, 1) := k_172 zcX5_fullest rfl rfl
theorem dX5_sessions_0 : decode cX5_sessions 0 = .ok (.aload_n 0, 1) := k_42 zcX5_sessions rfl rfl
theorem dX5_sessions_1 : decode cX5_sessions 1 = .ok (.iload_n 1, 1) := k_27 zcX5_sessions rfl rfl
theorem dX5_sessions_2 : decode cX5_sessions 2 = .ok (.invokevirtual 123, 3) := k_182 zcX5_sessions rfl rfl rfl
theorem dX5_sessions_5 : decode cX5_sessions 5 = .ok (.astore_n 3, 1) := k_78 zcX5_sessions rfl rfl
theorem dX5_sessions_6 : decode cX5_sessions 6 = .ok (.aload_n 3, 1) := k_45 zcX5_sessions rfl rfl
theorem dX5_sessions_7 : decode cX5_sessions 7 = .ok (.ifnull 10, 3) := k_198 zcX5_sessions rfl rfl rfl
theorem dX5_sessions_10 : decode cX5_sessions 10 = .ok (.iload_n 2, 1) := k_28 zcX5_sessions rfl rfl
theorem dX5_sessions_11 : decode cX5_sessions 11 = .ok (.invokestatic 285, 3) := k_184 zcX5_sessions rfl rfl rfl
theorem dX5_sessions_14 : decode cX5_sessions 14 = .ok (.ifCond .ne 5, 3) := k_154 zcX5_sessions rfl rfl rfl
theorem dX5_sessions_17 : decode cX5_sessions 17 = .ok (.iconst (-1), 1) := k_2 zcX5_sessions rfl rfl
theorem dX5_sessions_18 : decode cX5_sessions 18 = .ok (.ireturn, 1) := k_172 zcX5_sessions rfl rfl
theorem dX5_sessions_19 : decode cX5_sessions 19 = .ok (.iconst 0, 1) := k_3 zcX5_sessions rfl rfl
theorem dX5_sessions_20 : decode cX5_sessions 20 = .ok (.istore 4, 2) := k_54 zcX5_sessions rfl rfl rfl
theorem dX5_sessions_22 : decode cX5_sessions 22 = .ok (.iconst 0, 1) := k_3 zcX5_sessions rfl rfl
theorem dX5_sessions_23 : decode cX5_sessions 23 = .ok (.istore 5, 2) := k_54 zcX5_sessions rfl rfl rfl
theorem dX5_sessions_25 : decode cX5_sessions 25 = .ok (.iload 5, 2) := k_21 zcX5_sessions rfl rfl rfl
theorem dX5_sessions_27 : decode cX5_sessions 27 = .ok (.aload_n 3, 1) := k_45 zcX5_sessions rfl rfl
theorem dX5_sessions_28 : decode cX5_sessions 28 = .ok (.getfield 154, 3) := k_180 zcX5_sessions rfl rfl rfl
theorem dX5_sessions_31 : decode cX5_sessions 31 = .ok (.if_icmp .ge 29, 3) := k_162 zcX5_sessions rfl rfl rfl
theorem dX5_sessions_34 : decode cX5_sessions 34 = .ok (.iload 4, 2) := k_21 zcX5_sessions rfl rfl rfl
theorem dX5_sessions_36 : decode cX5_sessions 36 = .ok (.aload_n 3, 1) := k_45 zcX5_sessions rfl rfl
theorem dX5_sessions_37 : decode cX5_sessions 37 = .ok (.iload 5, 2) := k_21 zcX5_sessions rfl rfl rfl
theorem dX5_sessions_39 : decode cX5_sessions 39 = .ok (.iload_n 2, 1) := k_28 zcX5_sessions rfl rfl
theorem dX5_sessions_40 : decode cX5_sessions 40 = .ok (.invokevirtual 221, 3) := k_182 zcX5_sessions rfl rfl rfl
theorem dX5_sessions_43 : decode cX5_sessions 43 = .ok (.ifCond .eq 7, 3) := k_153 zcX5_sessions rfl rfl rfl
theorem dX5_sessions_46 : decode cX5_sessions 46 = .ok (.iconst 1, 1) := k_4 zcX5_sessions rfl rfl
theorem dX5_sessions_47 : decode cX5_sessions 47 = .ok (.goto 4, 3) := k_167 zcX5_sessions rfl rfl rfl
theorem dX5_sessions_50 : decode cX5_sessions 50 = .ok (.iconst 0, 1) := k_3 zcX5_sessions rfl rfl
theorem dX5_sessions_51 : decode cX5_sessions 51 = .ok (.iadd, 1) := k_96 zcX5_sessions rfl rfl
theorem dX5_sessions_52 : decode cX5_sessions 52 = .ok (.istore 4, 2) := k_54 zcX5_sessions rfl rfl rfl
theorem dX5_sessions_54 : decode cX5_sessions 54 = .ok (.iinc 5 1, 3) := k_132 zcX5_sessions rfl rfl rfl rfl
theorem dX5_sessions_57 : decode cX5_sessions 57 = .ok (.goto (-32), 3) := k_167 zcX5_sessions rfl rfl rfl
theorem dX5_sessions_60 : decode cX5_sessions 60 = .ok (.iload 4, 2) := k_21 zcX5_sessions rfl rfl rfl
theorem dX5_sessions_62 : decode cX5_sessions 62 = .ok (.ireturn, 1) := k_172 zcX5_sessions rfl rfl
theorem dX5_session_0 : decode cX5_session 0 = .ok (.aload_n 0, 1) := k_42 zcX5_session rfl rfl
theorem dX5_session_1 : decode cX5_session 1 = .ok (.iload_n 1, 1) := k_27 zcX5_session rfl rfl
theorem dX5_session_2 : decode cX5_session 2 = .ok (.iload 4, 2) := k_21 zcX5_session rfl rfl rfl
theorem dX5_session_4 : decode cX5_session 4 = .ok (.invokevirtual 248, 3) := k_182 zcX5_session rfl rfl rfl
theorem dX5_session_7 : decode cX5_session 7 = .ok (.astore 5, 2) := k_58 zcX5_session rfl rfl rfl
theorem dX5_session_9 : decode cX5_session 9 = .ok (.aload 5, 2) := k_25 zcX5_session rfl rfl rfl
theorem dX5_session_11 : decode cX5_session 11 = .ok (.ifnull 14, 3) := k_198 zcX5_session rfl rfl rfl
theorem dX5_session_14 : decode cX5_session 14 = .ok (.iload_n 2, 1) := k_28 zcX5_session rfl rfl
theorem dX5_session_15 : decode cX5_session 15 = .ok (.invokestatic 285, 3) := k_184 zcX5_session rfl rfl rfl
theorem dX5_session_18 : decode cX5_session 18 = .ok (.ifCond .eq 7, 3) := k_153 zcX5_session rfl rfl rfl
theorem dX5_session_21 : decode cX5_session 21 = .ok (.iload_n 3, 1) := k_29 zcX5_session rfl rfl
theorem dX5_session_22 : decode cX5_session 22 = .ok (.ifCond .ge 6, 3) := k_156 zcX5_session rfl rfl rfl
theorem dX5_session_25 : decode cX5_session 25 = .ok (.ldc 175, 2) := k_18 zcX5_session rfl rfl rfl
theorem dX5_session_27 : decode cX5_session 27 = .ok (.ireturn, 1) := k_172 zcX5_session rfl rfl
theorem dX5_session_28 : decode cX5_session 28 = .ok (.aload_n 0, 1) := k_42 zcX5_session rfl rfl
theorem dX5_session_29 : decode cX5_session 29 = .ok (.getfield 40, 3) := k_180 zcX5_session rfl rfl rfl
theorem dX5_session_32 : decode cX5_session 32 = .ok (.aload 5, 2) := k_25 zcX5_session rfl rfl rfl
theorem dX5_session_34 : decode cX5_session 34 = .ok (.getfield 98, 3) := k_180 zcX5_session rfl rfl rfl
theorem dX5_session_37 : decode cX5_session 37 = .ok (.invokevirtual 251, 3) := k_182 zcX5_session rfl rfl rfl
theorem dX5_session_40 : decode cX5_session 40 = .ok (.iconst (-1), 1) := k_2 zcX5_session rfl rfl
theorem dX5_session_41 : decode cX5_session 41 = .ok (.istore 6, 2) := k_54 zcX5_session rfl rfl rfl
theorem dX5_session_43 : decode cX5_session 43 = .ok (.iconst 0, 1) := k_3 zcX5_session rfl rfl
theorem dX5_session_44 : decode cX5_session 44 = .ok (.istore 7, 2) := k_54 zcX5_session rfl rfl rfl
theorem dX5_session_46 : decode cX5_session 46 = .ok (.iload 7, 2) := k_21 zcX5_session rfl rfl rfl
theorem dX5_session_48 : decode cX5_session 48 = .ok (.aload 5, 2) := k_25 zcX5_session rfl rfl rfl
theorem dX5_session_50 : decode cX5_session 50 = .ok (.getfield 154, 3) := k_180 zcX5_session rfl rfl rfl
theorem dX5_session_53 : decode cX5_session 53 = .ok (.if_icmp .ge 51, 3) := k_162 zcX5_session rfl rfl rfl
theorem dX5_session_56 : decode cX5_session 56 = .ok (.iload 6, 2) := k_21 zcX5_session rfl rfl rfl
theorem dX5_session_58 : decode cX5_session 58 = .ok (.aload 5, 2) := k_25 zcX5_session rfl rfl rfl
theorem dX5_session_60 : decode cX5_session 60 = .ok (.iload 7, 2) := k_21 zcX5_session rfl rfl rfl
theorem dX5_session_62 : decode cX5_session 62 = .ok (.iload_n 2, 1) := k_28 zcX5_session rfl rfl
theorem dX5_session_63 : decode cX5_session 63 = .ok (.invokevirtual 221, 3) := k_182 zcX5_session rfl rfl rfl
theorem dX5_session_66 : decode cX5_session 66 = .ok (.ifCond .eq 7, 3) := k_153 zcX5_session rfl rfl rfl
theorem dX5_session_69 : decode cX5_session 69 = .ok (.iconst 1, 1) := k_4 zcX5_session rfl rfl
theorem dX5_session_70 : decode cX5_session 70 = .ok (.goto 4, 3) := k_167 zcX5_session rfl rfl rfl
theorem dX5_session_73 : decode cX5_session 73 = .ok (.iconst 0, 1) := k_3 zcX5_session rfl rfl
theorem dX5_session_74 : decode cX5_session 74 = .ok (.iadd, 1) := k_96 zcX5_session rfl rfl
theorem dX5_session_75 : decode cX5_session 75 = .ok (.istore 6, 2) := k_54 zcX5_session rfl rfl rfl
theorem dX5_session_77 : decode cX5_session 77 = .ok (.iload 6, 2) := k_21 zcX5_session rfl rfl rfl
theorem dX5_session_79 : decode cX5_session 79 = .ok (.iload_n 3, 1) := k_29 zcX5_session rfl rfl
theorem dX5_session_80 : decode cX5_session 80 = .ok (.if_icmp .ne 18, 3) := k_160 zcX5_session rfl rfl rfl
theorem dX5_session_83 : decode cX5_session 83 = .ok (.aload_n 0, 1) := k_42 zcX5_session rfl rfl
theorem dX5_session_84 : decode cX5_session 84 = .ok (.getfield 40, 3) := k_180 zcX5_session rfl rfl rfl
theorem dX5_session_87 : decode cX5_session 87 = .ok (.aload 5, 2) := k_25 zcX5_session rfl rfl rfl
theorem dX5_session_89 : decode cX5_session 89 = .ok (.getfield 176, 3) := k_180 zcX5_session rfl rfl rfl
theorem dX5_session_92 : decode cX5_session 92 = .ok (.iload 7, 2) := k_21 zcX5_session rfl rfl rfl
theorem dX5_session_94 : decode cX5_session 94 = .ok (.iaload, 1) := k_46 zcX5_session rfl rfl
theorem dX5_session_95 : decode cX5_session 95 = .ok (.invokevirtual 253, 3) := k_182 zcX5_session rfl rfl rfl
theorem dX5_session_98 : decode cX5_session 98 = .ok (.iinc 7 1, 3) := k_132 zcX5_session rfl rfl rfl rfl
theorem dX5_session_101 : decode cX5_session 101 = .ok (.goto (-55), 3) := k_167 zcX5_session rfl rfl rfl
theorem dX5_session_104 : decode cX5_session 104 = .ok (.aload_n 0, 1) := k_42 zcX5_session rfl rfl
theorem dX5_session_105 : decode cX5_session 105 = .ok (.getfield 40, 3) := k_180 zcX5_session rfl rfl rfl
theorem dX5_session_108 : decode cX5_session 108 = .ok (.iload 4, 2) := k_21 zcX5_session rfl rfl rfl
theorem dX5_session_110 : decode cX5_session 110 = .ok (.invokevirtual 273, 3) := k_182 zcX5_session rfl rfl rfl
theorem dX5_session_113 : decode cX5_session 113 = .ok (.ireturn, 1) := k_172 zcX5_session rfl rfl
theorem dX5_longest_0 : decode cX5_longest 0 = .ok (.aload_n 0, 1) := k_42 zcX5_longest rfl rfl
theorem dX5_longest_1 : decode cX5_longest 1 = .ok (.iload_n 1, 1) := k_27 zcX5_longest rfl rfl
theorem dX5_longest_2 : decode cX5_longest 2 = .ok (.invokevirtual 123, 3) := k_182 zcX5_longest rfl rfl rfl
theorem dX5_longest_5 : decode cX5_longest 5 = .ok (.astore_n 3, 1) := k_78 zcX5_longest rfl rfl
theorem dX5_longest_6 : decode cX5_longest 6 = .ok (.aload_n 3, 1) := k_45 zcX5_longest rfl rfl
theorem dX5_longest_7 : decode cX5_longest 7 = .ok (.ifnull 10, 3) := k_198 zcX5_longest rfl rfl rfl
theorem dX5_longest_10 : decode cX5_longest 10 = .ok (.iload_n 2, 1) := k_28 zcX5_longest rfl rfl
theorem dX5_longest_11 : decode cX5_longest 11 = .ok (.invokestatic 285, 3) := k_184 zcX5_longest rfl rfl rfl
theorem dX5_longest_14 : decode cX5_longest 14 = .ok (.ifCond .ne 5, 3) := k_154 zcX5_longest rfl rfl rfl
theorem dX5_longest_17 : decode cX5_longest 17 = .ok (.iconst (-1), 1) := k_2 zcX5_longest rfl rfl
theorem dX5_longest_18 : decode cX5_longest 18 = .ok (.ireturn, 1) := k_172 zcX5_longest rfl rfl
theorem dX5_longest_19 : decode cX5_longest 19 = .ok (.iconst (-1), 1) := k_2 zcX5_longest rfl rfl
theorem dX5_longest_20 : decode cX5_longest 20 = .ok (.istore 4, 2) := k_54 zcX5_longest rfl rfl rfl
theorem dX5_longest_22 : decode cX5_longest 22 = .ok (.iconst 0, 1) := k_3 zcX5_longest rfl rfl
theorem dX5_longest_23 : decode cX5_longest 23 = .ok (.istore 5, 2) := k_54 zcX5_longest rfl rfl rfl
theorem dX5_longest_25 : decode cX5_longest 25 = .ok (.iconst (-1), 1) := k_2 zcX5_longest rfl rfl
theorem dX5_longest_26 : decode cX5_longest 26 = .ok (.istore 6, 2) := k_54 zcX5_longest rfl rfl rfl
theorem dX5_longest_28 : decode cX5_longest 28 = .ok (.iconst 0, 1) := k_3 zcX5_longest rfl rfl
theorem dX5_longest_29 : decode cX5_longest 29 = .ok (.istore 7, 2) := k_54 zcX5_longest rfl rfl rfl
theorem dX5_longest_31 : decode cX5_longest 31 = .ok (.iconst 0, 1) := k_3 zcX5_longest rfl rfl
theorem dX5_longest_32 : decode cX5_longest 32 = .ok (.istore 8, 2) := k_54 zcX5_longest rfl rfl rfl
theorem dX5_longest_34 : decode cX5_longest 34 = .ok (.iload 8, 2) := k_21 zcX5_longest rfl rfl rfl
theorem dX5_longest_36 : decode cX5_longest 36 = .ok (.aload_n 3, 1) := k_45 zcX5_longest rfl rfl
theorem dX5_longest_37 : decode cX5_longest 37 = .ok (.getfield 154, 3) := k_180 zcX5_longest rfl rfl rfl
theorem dX5_longest_40 : decode cX5_longest 40 = .ok (.if_icmp .ge 63, 3) := k_162 zcX5_longest rfl rfl rfl
theorem dX5_longest_43 : decode cX5_longest 43 = .ok (.aload_n 3, 1) := k_45 zcX5_longest rfl rfl
theorem dX5_longest_44 : decode cX5_longest 44 = .ok (.iload 8, 2) := k_21 zcX5_longest rfl rfl rfl
theorem dX5_longest_46 : decode cX5_longest 46 = .ok (.iload_n 2, 1) := k_28 zcX5_longest rfl rfl
theorem dX5_longest_47 : decode cX5_longest 47 = .ok (.invokevirtual 221, 3) := k_182 zcX5_longest rfl rfl rfl
theorem dX5_longest_50 : decode cX5_longest 50 = .ok (.istore 9, 2) := k_54 zcX5_longest rfl rfl rfl
theorem dX5_longest_52 : decode cX5_longest 52 = .ok (.iload 6, 2) := k_21 zcX5_longest rfl rfl rfl
theorem dX5_longest_54 : decode cX5_longest 54 = .ok (.iload 9, 2) := k_21 zcX5_longest rfl rfl rfl
theorem dX5_longest_56 : decode cX5_longest 56 = .ok (.ifCond .eq 7, 3) := k_153 zcX5_longest rfl rfl rfl
theorem dX5_longest_59 : decode cX5_longest 59 = .ok (.iconst 1, 1) := k_4 zcX5_longest rfl rfl
theorem dX5_longest_60 : decode cX5_longest 60 = .ok (.goto 4, 3) := k_167 zcX5_longest rfl rfl rfl
theorem dX5_longest_63 : decode cX5_longest 63 = .ok (.iconst 0, 1) := k_3 zcX5_longest rfl rfl
theorem dX5_longest_64 : decode cX5_longest 64 = .ok (.iadd, 1) := k_96 zcX5_longest rfl rfl
theorem dX5_longest_65 : decode cX5_longest 65 = .ok (.istore 6, 2) := k_54 zcX5_longest rfl rfl rfl
theorem dX5_longest_67 : decode cX5_longest 67 = .ok (.iload 9, 2) := k_21 zcX5_longest rfl rfl rfl
theorem dX5_longest_69 : decode cX5_longest 69 = .ok (.ifCond .eq 7, 3) := k_153 zcX5_longest rfl rfl rfl
theorem dX5_longest_72 : decode cX5_longest 72 = .ok (.iconst 1, 1) := k_4 zcX5_longest rfl rfl
theorem dX5_longest_73 : decode cX5_longest 73 = .ok (.goto 7, 3) := k_167 zcX5_longest rfl rfl rfl
theorem dX5_longest_76 : decode cX5_longest 76 = .ok (.iload 7, 2) := k_21 zcX5_longest rfl rfl rfl
theorem dX5_longest_78 : decode cX5_longest 78 = .ok (.iconst 1, 1) := k_4 zcX5_longest rfl rfl
theorem dX5_longest_79 : decode cX5_longest 79 = .ok (.iadd, 1) := k_96 zcX5_longest rfl rfl
theorem dX5_longest_80 : decode cX5_longest 80 = .ok (.istore 7, 2) := k_54 zcX5_longest rfl rfl rfl
theorem dX5_longest_82 : decode cX5_longest 82 = .ok (.iload 7, 2) := k_21 zcX5_longest rfl rfl rfl
theorem dX5_longest_84 : decode cX5_longest 84 = .ok (.iload 5, 2) := k_21 zcX5_longest rfl rfl rfl
theorem dX5_longest_86 : decode cX5_longest 86 = .ok (.if_icmp .le 11, 3) := k_164 zcX5_longest rfl rfl rfl
theorem dX5_longest_89 : decode cX5_longest 89 = .ok (.iload 7, 2) := k_21 zcX5_longest rfl rfl rfl
theorem dX5_longest_91 : decode cX5_longest 91 = .ok (.istore 5, 2) := k_54 zcX5_longest rfl rfl rfl
theorem dX5_longest_93 : decode cX5_longest 93 = .ok (.iload 6, 2) := k_21 zcX5_longest rfl rfl rfl
theorem dX5_longest_95 : decode cX5_longest 95 = .ok (.istore 4, 2) := k_54 zcX5_longest rfl rfl rfl
theorem dX5_longest_97 : decode cX5_longest 97 = .ok (.iinc 8 1, 3) := k_132 zcX5_longest rfl rfl rfl rfl
theorem dX5_longest_100 : decode cX5_longest 100 = .ok (.goto (-66), 3) := k_167 zcX5_longest rfl rfl rfl
theorem dX5_longest_103 : decode cX5_longest 103 = .ok (.iload 4, 2) := k_21 zcX5_longest rfl rfl rfl
theorem dX5_longest_105 : decode cX5_longest 105 = .ok (.ireturn, 1) := k_172 zcX5_longest rfl rfl
theorem dX5_state_0 : decode cX5_state 0 = .ok (.aload_n 0, 1) := k_42 zcX5_state rfl rfl
theorem dX5_state_1 : decode cX5_state 1 = .ok (.iload_n 1, 1) := k_27 zcX5_state rfl rfl
theorem dX5_state_2 : decode cX5_state 2 = .ok (.invokevirtual 123, 3) := k_182 zcX5_state rfl rfl rfl
theorem dX5_state_5 : decode cX5_state 5 = .ok (.astore_n 3, 1) := k_78 zcX5_state rfl rfl
theorem dX5_state_6 : decode cX5_state 6 = .ok (.aload_n 3, 1) := k_45 zcX5_state rfl rfl
theorem dX5_state_7 : decode cX5_state 7 = .ok (.ifnonnull 7, 3) := k_199 zcX5_state rfl rfl rfl
theorem dX5_state_10 : decode cX5_state 10 = .ok (.iconst (-1), 1) := k_2 zcX5_state rfl rfl
theorem dX5_state_11 : decode cX5_state 11 = .ok (.goto 11, 3) := k_167 zcX5_state rfl rfl rfl
theorem dX5_state_14 : decode cX5_state 14 = .ok (.aload_n 3, 1) := k_45 zcX5_state rfl rfl
theorem dX5_state_15 : decode cX5_state 15 = .ok (.getfield 189, 3) := k_180 zcX5_state rfl rfl rfl
theorem dX5_state_18 : decode cX5_state 18 = .ok (.iload_n 2, 1) := k_28 zcX5_state rfl rfl
theorem dX5_state_19 : decode cX5_state 19 = .ok (.invokevirtual 288, 3) := k_182 zcX5_state rfl rfl rfl
theorem dX5_state_22 : decode cX5_state 22 = .ok (.ireturn, 1) := k_172 zcX5_state rfl rfl
theorem dX5_soon_0 : decode cX5_soon 0 = .ok (.aload_n 0, 1) := k_42 zcX5_soon rfl rfl
theorem dX5_soon_1 : decode cX5_soon 1 = .ok (.iload_n 1, 1) := k_27 zcX5_soon rfl rfl
theorem dX5_soon_2 : decode cX5_soon 2 = .ok (.invokevirtual 123, 3) := k_182 zcX5_soon rfl rfl rfl
theorem dX5_soon_5 : decode cX5_soon 5 = .ok (.astore_n 3, 1) := k_78 zcX5_soon rfl rfl
theorem dX5_soon_6 : decode cX5_soon 6 = .ok (.aload_n 3, 1) := k_45 zcX5_soon rfl rfl
theorem dX5_soon_7 : decode cX5_soon 7 = .ok (.ifnull 12, 3) := k_198 zcX5_soon rfl rfl rfl
theorem dX5_soon_10 : decode cX5_soon 10 = .ok (.iload_n 2, 1) := k_28 zcX5_soon rfl rfl
theorem dX5_soon_11 : decode cX5_soon 11 = .ok (.iconst 0, 1) := k_3 zcX5_soon rfl rfl
theorem dX5_soon_12 : decode cX5_soon 12 = .ok (.iconst 1, 1) := k_4 zcX5_soon rfl rfl
theorem dX5_soon_13 : decode cX5_soon 13 = .ok (.invokestatic 59, 3) := k_184 zcX5_soon rfl rfl rfl
theorem dX5_soon_16 : decode cX5_soon 16 = .ok (.ifCond .ne 5, 3) := k_154 zcX5_soon rfl rfl rfl
theorem dX5_soon_19 : decode cX5_soon 19 = .ok (.iconst (-1), 1) := k_2 zcX5_soon rfl rfl
theorem dX5_soon_20 : decode cX5_soon 20 = .ok (.ireturn, 1) := k_172 zcX5_soon rfl rfl
theorem dX5_soon_21 : decode cX5_soon 21 = .ok (.aload_n 3, 1) := k_45 zcX5_soon rfl rfl
theorem dX5_soon_22 : decode cX5_soon 22 = .ok (.getfield 189, 3) := k_180 zcX5_soon rfl rfl rfl
theorem dX5_soon_25 : decode cX5_soon 25 = .ok (.astore 4, 2) := k_58 zcX5_soon rfl rfl rfl
theorem dX5_soon_27 : decode cX5_soon 27 = .ok (.iload_n 2, 1) := k_28 zcX5_soon rfl rfl
theorem dX5_soon_28 : decode cX5_soon 28 = .ok (.ifCond .ne 29, 3) := k_154 zcX5_soon rfl rfl rfl
theorem dX5_soon_31 : decode cX5_soon 31 = .ok (.aload 4, 2) := k_25 zcX5_soon rfl rfl rfl
theorem dX5_soon_33 : decode cX5_soon 33 = .ok (.getfield 291, 3) := k_180 zcX5_soon rfl rfl rfl
theorem dX5_soon_36 : decode cX5_soon 36 = .ok (.ifCond .le 7, 3) := k_158 zcX5_soon rfl rfl rfl
theorem dX5_soon_39 : decode cX5_soon 39 = .ok (.iconst (-1), 1) := k_2 zcX5_soon rfl rfl
theorem dX5_soon_40 : decode cX5_soon 40 = .ok (.goto 16, 3) := k_167 zcX5_soon rfl rfl rfl
theorem dX5_soon_43 : decode cX5_soon 43 = .ok (.aload 4, 2) := k_25 zcX5_soon rfl rfl rfl
theorem dX5_soon_45 : decode cX5_soon 45 = .ok (.getfield 294, 3) := k_180 zcX5_soon rfl rfl rfl
theorem dX5_soon_48 : decode cX5_soon 48 = .ok (.iconst 1, 1) := k_4 zcX5_soon rfl rfl
theorem dX5_soon_49 : decode cX5_soon 49 = .ok (.iadd, 1) := k_96 zcX5_soon rfl rfl
theorem dX5_soon_50 : decode cX5_soon 50 = .ok (.aload 4, 2) := k_25 zcX5_soon rfl rfl rfl
theorem dX5_soon_52 : decode cX5_soon 52 = .ok (.getfield 297, 3) := k_180 zcX5_soon rfl rfl rfl
theorem dX5_soon_55 : decode cX5_soon 55 = .ok (.isub, 1) := k_100 zcX5_soon rfl rfl
theorem dX5_soon_56 : decode cX5_soon 56 = .ok (.ireturn, 1) := k_172 zcX5_soon rfl rfl
theorem dX5_soon_57 : decode cX5_soon 57 = .ok (.aload 4, 2) := k_25 zcX5_soon rfl rfl rfl
theorem dX5_soon_59 : decode cX5_soon 59 = .ok (.getfield 291, 3) := k_180 zcX5_soon rfl rfl rfl
theorem dX5_soon_62 : decode cX5_soon 62 = .ok (.ifCond .le 17, 3) := k_158 zcX5_soon rfl rfl rfl
theorem dX5_soon_65 : decode cX5_soon 65 = .ok (.aload 4, 2) := k_25 zcX5_soon rfl rfl rfl
theorem dX5_soon_67 : decode cX5_soon 67 = .ok (.getfield 291, 3) := k_180 zcX5_soon rfl rfl rfl
theorem dX5_soon_70 : decode cX5_soon 70 = .ok (.iconst 3, 1) := k_6 zcX5_soon rfl rfl
theorem dX5_soon_71 : decode cX5_soon 71 = .ok (.iadd, 1) := k_96 zcX5_soon rfl rfl
theorem dX5_soon_72 : decode cX5_soon 72 = .ok (.iconst 1, 1) := k_4 zcX5_soon rfl rfl
theorem dX5_soon_73 : decode cX5_soon 73 = .ok (.isub, 1) := k_100 zcX5_soon rfl rfl
theorem dX5_soon_74 : decode cX5_soon 74 = .ok (.iconst 3, 1) := k_6 zcX5_soon rfl rfl
theorem dX5_soon_75 : decode cX5_soon 75 = .ok (.idiv, 1) := k_108 zcX5_soon rfl rfl
theorem dX5_soon_76 : decode cX5_soon 76 = .ok (.goto 4, 3) := k_167 zcX5_soon rfl rfl rfl
theorem dX5_soon_79 : decode cX5_soon 79 = .ok (.iconst (-1), 1) := k_2 zcX5_soon rfl rfl
theorem dX5_soon_80 : decode cX5_soon 80 = .ok (.ireturn, 1) := k_172 zcX5_soon rfl rfl
theorem dX5_cost_0 : decode cX5_cost 0 = .ok (.aload_n 0, 1) := k_42 zcX5_cost rfl rfl
theorem dX5_cost_1 : decode cX5_cost 1 = .ok (.iload_n 1, 1) := k_27 zcX5_cost rfl rfl
theorem dX5_cost_2 : decode cX5_cost 2 = .ok (.invokevirtual 123, 3) := k_182 zcX5_cost rfl rfl rfl
theorem dX5_cost_5 : decode cX5_cost 5 = .ok (.astore 4, 2) := k_58 zcX5_cost rfl rfl rfl
theorem dX5_cost_7 : decode cX5_cost 7 = .ok (.aload 4, 2) := k_25 zcX5_cost rfl rfl rfl
theorem dX5_cost_9 : decode cX5_cost 9 = .ok (.ifnull 23, 3) := k_198 zcX5_cost rfl rfl rfl
theorem dX5_cost_12 : decode cX5_cost 12 = .ok (.iload_n 2, 1) := k_28 zcX5_cost rfl rfl
theorem dX5_cost_13 : decode cX5_cost 13 = .ok (.iconst 0, 1) := k_3 zcX5_cost rfl rfl
theorem dX5_cost_14 : decode cX5_cost 14 = .ok (.sipush 200, 3) := k_17 zcX5_cost rfl rfl rfl
theorem dX5_cost_17 : decode cX5_cost 17 = .ok (.invokestatic 59, 3) := k_184 zcX5_cost rfl rfl rfl
theorem dX5_cost_20 : decode cX5_cost 20 = .ok (.ifCond .eq 12, 3) := k_153 zcX5_cost rfl rfl rfl
theorem dX5_cost_23 : decode cX5_cost 23 = .ok (.iload_n 3, 1) := k_29 zcX5_cost rfl rfl
theorem dX5_cost_24 : decode cX5_cost 24 = .ok (.iconst 0, 1) := k_3 zcX5_cost rfl rfl
theorem dX5_cost_25 : decode cX5_cost 25 = .ok (.iconst 1, 1) := k_4 zcX5_cost rfl rfl
theorem dX5_cost_26 : decode cX5_cost 26 = .ok (.invokestatic 59, 3) := k_184 zcX5_cost rfl rfl rfl
theorem dX5_cost_29 : decode cX5_cost 29 = .ok (.ifCond .ne 5, 3) := k_154 zcX5_cost rfl rfl rfl
theorem dX5_cost_32 : decode cX5_cost 32 = .ok (.iconst (-1), 1) := k_2 zcX5_cost rfl rfl
theorem dX5_cost_33 : decode cX5_cost 33 = .ok (.ireturn, 1) := k_172 zcX5_cost rfl rfl
theorem dX5_cost_34 : decode cX5_cost 34 = .ok (.aload_n 0, 1) := k_42 zcX5_cost rfl rfl
theorem dX5_cost_35 : decode cX5_cost 35 = .ok (.getfield 47, 3) := k_180 zcX5_cost rfl rfl rfl
theorem dX5_cost_38 : decode cX5_cost 38 = .ok (.aload 4, 2) := k_25 zcX5_cost rfl rfl rfl
theorem dX5_cost_40 : decode cX5_cost 40 = .ok (.getfield 189, 3) := k_180 zcX5_cost rfl rfl rfl
theorem dX5_cost_43 : decode cX5_cost 43 = .ok (.invokevirtual 300, 3) := k_182 zcX5_cost rfl rfl rfl
theorem dX5_cost_46 : decode cX5_cost 46 = .ok (.aload_n 0, 1) := k_42 zcX5_cost rfl rfl
theorem dX5_cost_47 : decode cX5_cost 47 = .ok (.getfield 47, 3) := k_180 zcX5_cost rfl rfl rfl
theorem dX5_cost_50 : decode cX5_cost 50 = .ok (.iconst 0, 1) := k_3 zcX5_cost rfl rfl
theorem dX5_cost_51 : decode cX5_cost 51 = .ok (.putfield 304, 3) := k_181 zcX5_cost rfl rfl rfl
theorem dX5_cost_54 : decode cX5_cost 54 = .ok (.aload_n 0, 1) := k_42 zcX5_cost rfl rfl
theorem dX5_cost_55 : decode cX5_cost 55 = .ok (.getfield 47, 3) := k_180 zcX5_cost rfl rfl rfl
theorem dX5_cost_58 : decode cX5_cost 58 = .ok (.iconst 0, 1) := k_3 zcX5_cost rfl rfl
theorem dX5_cost_59 : decode cX5_cost 59 = .ok (.putfield 307, 3) := k_181 zcX5_cost rfl rfl rfl
theorem dX5_cost_62 : decode cX5_cost 62 = .ok (.iconst 0, 1) := k_3 zcX5_cost rfl rfl
theorem dX5_cost_63 : decode cX5_cost 63 = .ok (.istore 5, 2) := k_54 zcX5_cost rfl rfl rfl
theorem dX5_cost_65 : decode cX5_cost 65 = .ok (.iload 5, 2) := k_21 zcX5_cost rfl rfl rfl
theorem dX5_cost_67 : decode cX5_cost 67 = .ok (.iload_n 2, 1) := k_28 zcX5_cost rfl rfl
theorem dX5_cost_68 : decode cX5_cost 68 = .ok (.if_icmp .ge 16, 3) := k_162 zcX5_cost rfl rfl rfl
theorem dX5_cost_71 : decode cX5_cost 71 = .ok (.aload_n 0, 1) := k_42 zcX5_cost rfl rfl
theorem dX5_cost_72 : decode cX5_cost 72 = .ok (.getfield 47, 3) := k_180 zcX5_cost rfl rfl rfl
theorem dX5_cost_75 : decode cX5_cost 75 = .ok (.invokevirtual 192, 3) := k_182 zcX5_cost rfl rfl rfl
theorem dX5_cost_78 : decode cX5_cost 78 = .ok (.iinc 5 1, 3) := k_132 zcX5_cost rfl rfl rfl rfl
theorem dX5_cost_81 : decode cX5_cost 81 = .ok (.goto (-16), 3) := k_167 zcX5_cost rfl rfl rfl
theorem dX5_cost_84 : decode cX5_cost 84 = .ok (.iload_n 3, 1) := k_29 zcX5_cost rfl rfl
theorem dX5_cost_85 : decode cX5_cost 85 = .ok (.ifCond .ne 13, 3) := k_154 zcX5_cost rfl rfl rfl
theorem dX5_cost_88 : decode cX5_cost 88 = .ok (.aload_n 0, 1) := k_42 zcX5_cost rfl rfl
theorem dX5_cost_89 : decode cX5_cost 89 = .ok (.getfield 47, 3) := k_180 zcX5_cost rfl rfl rfl
theorem dX5_cost_92 : decode cX5_cost 92 = .ok (.getfield 304, 3) := k_180 zcX5_cost rfl rfl rfl
theorem dX5_cost_95 : decode cX5_cost 95 = .ok (.goto 10, 3) := k_167 zcX5_cost rfl rfl rfl
theorem dX5_cost_98 : decode cX5_cost 98 = .ok (.aload_n 0, 1) := k_42 zcX5_cost rfl rfl
theorem dX5_cost_99 : decode cX5_cost 99 = .ok (.getfield 47, 3) := k_180 zcX5_cost rfl rfl rfl
theorem dX5_cost_102 : decode cX5_cost 102 = .ok (.getfield 307, 3) := k_180 zcX5_cost rfl rfl rfl
theorem dX5_cost_105 : decode cX5_cost 105 = .ok (.ireturn, 1) := k_172 zcX5_cost rfl rfl
theorem dX5_lane_0 : decode cX5_lane 0 = .ok (.aload_n 0, 1) := k_42 zcX5_lane rfl rfl
theorem dX5_lane_1 : decode cX5_lane 1 = .ok (.iload_n 1, 1) := k_27 zcX5_lane rfl rfl
theorem dX5_lane_2 : decode cX5_lane 2 = .ok (.invokevirtual 123, 3) := k_182 zcX5_lane rfl rfl rfl
theorem dX5_lane_5 : decode cX5_lane 5 = .ok (.astore_n 3, 1) := k_78 zcX5_lane rfl rfl
theorem dX5_lane_6 : decode cX5_lane 6 = .ok (.aload_n 3, 1) := k_45 zcX5_lane rfl rfl
theorem dX5_lane_7 : decode cX5_lane 7 = .ok (.ifnonnull 7, 3) := k_199 zcX5_lane rfl rfl rfl
theorem dX5_lane_10 : decode cX5_lane 10 = .ok (.iconst (-1), 1) := k_2 zcX5_lane rfl rfl
theorem dX5_lane_11 : decode cX5_lane 11 = .ok (.goto 8, 3) := k_167 zcX5_lane rfl rfl rfl
theorem dX5_lane_14 : decode cX5_lane 14 = .ok (.aload_n 3, 1) := k_45 zcX5_lane rfl rfl
theorem dX5_lane_15 : decode cX5_lane 15 = .ok (.iload_n 2, 1) := k_28 zcX5_lane rfl rfl
theorem dX5_lane_16 : decode cX5_lane 16 = .ok (.invokevirtual 308, 3) := k_182 zcX5_lane rfl rfl rfl
theorem dX5_lane_19 : decode cX5_lane 19 = .ok (.ireturn, 1) := k_172 zcX5_lane rfl rfl
theorem dX5_watch_0 : decode cX5_watch 0 = .ok (.aload_n 0, 1) := k_42 zcX5_watch rfl rfl
theorem dX5_watch_1 : decode cX5_watch 1 = .ok (.iload_n 2, 1) := k_28 zcX5_watch rfl rfl
theorem dX5_watch_2 : decode cX5_watch 2 = .ok (.iload_n 3, 1) := k_29 zcX5_watch rfl rfl
theorem dX5_watch_3 : decode cX5_watch 3 = .ok (.invokevirtual 248, 3) := k_182 zcX5_watch rfl rfl rfl
theorem dX5_watch_6 : decode cX5_watch 6 = .ok (.astore 5, 2) := k_58 zcX5_watch rfl rfl rfl
theorem dX5_watch_8 : decode cX5_watch 8 = .ok (.aload 5, 2) := k_25 zcX5_watch rfl rfl rfl
theorem dX5_watch_10 : decode cX5_watch 10 = .ok (.ifnull 13, 3) := k_198 zcX5_watch rfl rfl rfl
theorem dX5_watch_13 : decode cX5_watch 13 = .ok (.iload_n 1, 1) := k_27 zcX5_watch rfl rfl
theorem dX5_watch_14 : decode cX5_watch 14 = .ok (.iconst 0, 1) := k_3 zcX5_watch rfl rfl
theorem dX5_watch_15 : decode cX5_watch 15 = .ok (.bipush 7, 2) := k_16 zcX5_watch rfl rfl rfl
theorem dX5_watch_17 : decode cX5_watch 17 = .ok (.invokestatic 59, 3) := k_184 zcX5_watch rfl rfl rfl
theorem dX5_watch_20 : decode cX5_watch 20 = .ok (.ifCond .ne 5, 3) := k_154 zcX5_watch rfl rfl rfl
theorem dX5_watch_23 : decode cX5_watch 23 = .ok (.iconst (-1), 1) := k_2 zcX5_watch rfl rfl
theorem dX5_watch_24 : decode cX5_watch 24 = .ok (.ireturn, 1) := k_172 zcX5_watch rfl rfl
theorem dX5_watch_25 : decode cX5_watch 25 = .ok (.aload_n 0, 1) := k_42 zcX5_watch rfl rfl
theorem dX5_watch_26 : decode cX5_watch 26 = .ok (.aload 5, 2) := k_25 zcX5_watch rfl rfl rfl
theorem dX5_watch_28 : decode cX5_watch 28 = .ok (.iconst 0, 1) := k_3 zcX5_watch rfl rfl
theorem dX5_watch_29 : decode cX5_watch 29 = .ok (.aload 5, 2) := k_25 zcX5_watch rfl rfl rfl
theorem dX5_watch_31 : decode cX5_watch 31 = .ok (.getfield 154, 3) := k_180 zcX5_watch rfl rfl rfl
theorem dX5_watch_34 : decode cX5_watch 34 = .ok (.invokevirtual 259, 3) := k_182 zcX5_watch rfl rfl rfl
theorem dX5_watch_37 : decode cX5_watch 37 = .ok (.aload_n 0, 1) := k_42 zcX5_watch rfl rfl
theorem dX5_watch_38 : decode cX5_watch 38 = .ok (.getfield 40, 3) := k_180 zcX5_watch rfl rfl rfl
theorem dX5_watch_41 : decode cX5_watch 41 = .ok (.iload_n 3, 1) := k_29 zcX5_watch rfl rfl
theorem dX5_watch_42 : decode cX5_watch 42 = .ok (.iload 4, 2) := k_21 zcX5_watch rfl rfl rfl
theorem dX5_watch_44 : decode cX5_watch 44 = .ok (.invokevirtual 256, 3) := k_182 zcX5_watch rfl rfl rfl
theorem dX5_watch_47 : decode cX5_watch 47 = .ok (.istore 6, 2) := k_54 zcX5_watch rfl rfl rfl
theorem dX5_watch_49 : decode cX5_watch 49 = .ok (.aload_n 0, 1) := k_42 zcX5_watch rfl rfl
theorem dX5_watch_50 : decode cX5_watch 50 = .ok (.getfield 32, 3) := k_180 zcX5_watch rfl rfl rfl
theorem dX5_watch_53 : decode cX5_watch 53 = .ok (.iload_n 1, 1) := k_27 zcX5_watch rfl rfl
theorem dX5_watch_54 : decode cX5_watch 54 = .ok (.aaload, 1) := k_50 zcX5_watch rfl rfl
theorem dX5_watch_55 : decode cX5_watch 55 = .ok (.iload_n 2, 1) := k_28 zcX5_watch rfl rfl
theorem dX5_watch_56 : decode cX5_watch 56 = .ok (.iload_n 3, 1) := k_29 zcX5_watch rfl rfl
theorem dX5_watch_57 : decode cX5_watch 57 = .ok (.iload 4, 2) := k_21 zcX5_watch rfl rfl rfl
theorem dX5_watch_59 : decode cX5_watch 59 = .ok (.iload 6, 2) := k_21 zcX5_watch rfl rfl rfl
theorem dX5_watch_61 : decode cX5_watch 61 = .ok (.invokevirtual 309, 3) := k_182 zcX5_watch rfl rfl rfl
theorem dX5_watch_64 : decode cX5_watch 64 = .ok (.iload 6, 2) := k_21 zcX5_watch rfl rfl rfl
theorem dX5_watch_66 : decode cX5_watch 66 = .ok (.ifCond .eq 7, 3) := k_153 zcX5_watch rfl rfl rfl
theorem dX5_watch_69 : decode cX5_watch 69 = .ok (.iconst 1, 1) := k_4 zcX5_watch rfl rfl
theorem dX5_watch_70 : decode cX5_watch 70 = .ok (.goto 4, 3) := k_167 zcX5_watch rfl rfl rfl
theorem dX5_watch_73 : decode cX5_watch 73 = .ok (.iconst 0, 1) := k_3 zcX5_watch rfl rfl
theorem dX5_watch_74 : decode cX5_watch 74 = .ok (.ireturn, 1) := k_172 zcX5_watch rfl rfl
theorem dX5_rings_0 : decode cX5_rings 0 = .ok (.aload_n 0, 1) := k_42 zcX5_rings rfl rfl
theorem dX5_rings_1 : decode cX5_rings 1 = .ok (.iload_n 1, 1) := k_27 zcX5_rings rfl rfl
theorem dX5_rings_2 : decode cX5_rings 2 = .ok (.invokevirtual 312, 3) := k_182 zcX5_rings rfl rfl rfl
theorem dX5_rings_5 : decode cX5_rings 5 = .ok (.ifCond .eq 15, 3) := k_153 zcX5_rings rfl rfl rfl
theorem dX5_rings_8 : decode cX5_rings 8 = .ok (.aload_n 0, 1) := k_42 zcX5_rings rfl rfl
theorem dX5_rings_9 : decode cX5_rings 9 = .ok (.getfield 32, 3) := k_180 zcX5_rings rfl rfl rfl
theorem dX5_rings_12 : decode cX5_rings 12 = .ok (.iload_n 1, 1) := k_27 zcX5_rings rfl rfl
theorem dX5_rings_13 : decode cX5_rings 13 = .ok (.aaload, 1) := k_50 zcX5_rings rfl rfl
theorem dX5_rings_14 : decode cX5_rings 14 = .ok (.getfield 315, 3) := k_180 zcX5_rings rfl rfl rfl
theorem dX5_rings_17 : decode cX5_rings 17 = .ok (.goto 4, 3) := k_167 zcX5_rings rfl rfl rfl
theorem dX5_rings_20 : decode cX5_rings 20 = .ok (.iconst (-1), 1) := k_2 zcX5_rings rfl rfl
theorem dX5_rings_21 : decode cX5_rings 21 = .ok (.ireturn, 1) := k_172 zcX5_rings rfl rfl
theorem dX5_rang_0 : decode cX5_rang 0 = .ok (.aload_n 0, 1) := k_42 zcX5_rang rfl rfl
theorem dX5_rang_1 : decode cX5_rang 1 = .ok (.iload_n 1, 1) := k_27 zcX5_rang rfl rfl
theorem dX5_rang_2 : decode cX5_rang 2 = .ok (.invokevirtual 312, 3) := k_182 zcX5_rang rfl rfl rfl
theorem dX5_rang_5 : decode cX5_rang 5 = .ok (.ifCond .eq 15, 3) := k_153 zcX5_rang rfl rfl rfl
theorem dX5_rang_8 : decode cX5_rang 8 = .ok (.aload_n 0, 1) := k_42 zcX5_rang rfl rfl
theorem dX5_rang_9 : decode cX5_rang 9 = .ok (.getfield 32, 3) := k_180 zcX5_rang rfl rfl rfl
theorem dX5_rang_12 : decode cX5_rang 12 = .ok (.iload_n 1, 1) := k_27 zcX5_rang rfl rfl
theorem dX5_rang_13 : decode cX5_rang 13 = .ok (.aaload, 1) := k_50 zcX5_rang rfl rfl
theorem dX5_rang_14 : decode cX5_rang 14 = .ok (.getfield 318, 3) := k_180 zcX5_rang rfl rfl rfl
theorem dX5_rang_17 : decode cX5_rang 17 = .ok (.goto 4, 3) := k_167 zcX5_rang rfl rfl rfl
theorem dX5_rang_20 : decode cX5_rang 20 = .ok (.iconst (-1), 1) := k_2 zcX5_rang rfl rfl
theorem dX5_rang_21 : decode cX5_rang 21 = .ok (.ireturn, 1) := k_172 zcX5_rang rfl rfl
theorem dX5_isTold_0 : decode cX5_isTold 0 = .ok (.iload_n 1, 1) := k_27 zcX5_isTold rfl rfl
theorem dX5_isTold_1 : decode cX5_isTold 1 = .ok (.iconst 0, 1) := k_3 zcX5_isTold rfl rfl
theorem dX5_isTold_2 : decode cX5_isTold 2 = .ok (.bipush 7, 2) := k_16 zcX5_isTold rfl rfl rfl
theorem dX5_isTold_4 : decode cX5_isTold 4 = .ok (.invokestatic 59, 3) := k_184 zcX5_isTold rfl rfl rfl
theorem dX5_isTold_7 : decode cX5_isTold 7 = .ok (.ifCond .eq 20, 3) := k_153 zcX5_isTold rfl rfl rfl
theorem dX5_isTold_10 : decode cX5_isTold 10 = .ok (.aload_n 0, 1) := k_42 zcX5_isTold rfl rfl
theorem dX5_isTold_11 : decode cX5_isTold 11 = .ok (.getfield 32, 3) := k_180 zcX5_isTold rfl rfl rfl
theorem dX5_isTold_14 : decode cX5_isTold 14 = .ok (.iload_n 1, 1) := k_27 zcX5_isTold rfl rfl
theorem dX5_isTold_15 : decode cX5_isTold 15 = .ok (.aaload, 1) := k_50 zcX5_isTold rfl rfl
theorem dX5_isTold_16 : decode cX5_isTold 16 = .ok (.getfield 321, 3) := k_180 zcX5_isTold rfl rfl rfl
theorem dX5_isTold_19 : decode cX5_isTold 19 = .ok (.iconst (-1), 1) := k_2 zcX5_isTold rfl rfl
theorem dX5_isTold_20 : decode cX5_isTold 20 = .ok (.if_icmp .eq 7, 3) := k_159 zcX5_isTold rfl rfl rfl
theorem dX5_isTold_23 : decode cX5_isTold 23 = .ok (.iconst 1, 1) := k_4 zcX5_isTold rfl rfl
theorem dX5_isTold_24 : decode cX5_isTold 24 = .ok (.goto 4, 3) := k_167 zcX5_isTold rfl rfl rfl
theorem dX5_isTold_27 : decode cX5_isTold 27 = .ok (.iconst 0, 1) := k_3 zcX5_isTold rfl rfl
theorem dX5_isTold_28 : decode cX5_isTold 28 = .ok (.ireturn, 1) := k_172 zcX5_isTold rfl rfl
theorem dX5_ringWatches_0 : decode cX5_ringWatches 0 = .ok (.aload_n 0, 1) := k_42 zcX5_ringWatches rfl rfl
theorem dX5_ringWatches_1 : decode cX5_ringWatches 1 = .ok (.aload_n 1, 1) := k_43 zcX5_ringWatches rfl rfl
theorem dX5_ringWatches_2 : decode cX5_ringWatches 2 = .ok (.getfield 212, 3) := k_180 zcX5_ringWatches rfl rfl rfl
theorem dX5_ringWatches_5 : decode cX5_ringWatches 5 = .ok (.invokevirtual 324, 3) := k_182 zcX5_ringWatches rfl rfl rfl
theorem dX5_ringWatches_8 : decode cX5_ringWatches 8 = .ok (.ifCond .ne 4, 3) := k_154 zcX5_ringWatches rfl rfl rfl
theorem dX5_ringWatches_11 : decode cX5_ringWatches 11 = .ok (.return_, 1) := k_177 zcX5_ringWatches rfl rfl
theorem dX5_ringWatches_12 : decode cX5_ringWatches 12 = .ok (.aload_n 0, 1) := k_42 zcX5_ringWatches rfl rfl
theorem dX5_ringWatches_13 : decode cX5_ringWatches 13 = .ok (.getfield 40, 3) := k_180 zcX5_ringWatches rfl rfl rfl
theorem dX5_ringWatches_16 : decode cX5_ringWatches 16 = .ok (.aload_n 1, 1) := k_43 zcX5_ringWatches rfl rfl
theorem dX5_ringWatches_17 : decode cX5_ringWatches 17 = .ok (.getfield 98, 3) := k_180 zcX5_ringWatches rfl rfl rfl
theorem dX5_ringWatches_20 : decode cX5_ringWatches 20 = .ok (.invokevirtual 251, 3) := k_182 zcX5_ringWatches rfl rfl rfl
theorem dX5_ringWatches_23 : decode cX5_ringWatches 23 = .ok (.iconst 0, 1) := k_3 zcX5_ringWatches rfl rfl
theorem dX5_ringWatches_24 : decode cX5_ringWatches 24 = .ok (.istore_n 2, 1) := k_61 zcX5_ringWatches rfl rfl
theorem dX5_ringWatches_25 : decode cX5_ringWatches 25 = .ok (.iload_n 2, 1) := k_28 zcX5_ringWatches rfl rfl
theorem dX5_ringWatches_26 : decode cX5_ringWatches 26 = .ok (.aload_n 1, 1) := k_43 zcX5_ringWatches rfl rfl
theorem dX5_ringWatches_27 : decode cX5_ringWatches 27 = .ok (.getfield 154, 3) := k_180 zcX5_ringWatches rfl rfl rfl
theorem dX5_ringWatches_30 : decode cX5_ringWatches 30 = .ok (.if_icmp .ge 22, 3) := k_162 zcX5_ringWatches rfl rfl rfl
theorem dX5_ringWatches_33 : decode cX5_ringWatches 33 = .ok (.aload_n 0, 1) := k_42 zcX5_ringWatches rfl rfl
theorem dX5_ringWatches_34 : decode cX5_ringWatches 34 = .ok (.getfield 40, 3) := k_180 zcX5_ringWatches rfl rfl rfl
theorem dX5_ringWatches_37 : decode cX5_ringWatches 37 = .ok (.aload_n 1, 1) := k_43 zcX5_ringWatches rfl rfl
theorem dX5_ringWatches_38 : decode cX5_ringWatches 38 = .ok (.getfield 176, 3) := k_180 zcX5_ringWatches rfl rfl rfl
theorem dX5_ringWatches_41 : decode cX5_ringWatches 41 = .ok (.iload_n 2, 1) := k_28 zcX5_ringWatches rfl rfl
theorem dX5_ringWatches_42 : decode cX5_ringWatches 42 = .ok (.iaload, 1) := k_46 zcX5_ringWatches rfl rfl
theorem dX5_ringWatches_43 : decode cX5_ringWatches 43 = .ok (.invokevirtual 253, 3) := k_182 zcX5_ringWatches rfl rfl rfl
theorem dX5_ringWatches_46 : decode cX5_ringWatches 46 = .ok (.iinc 2 1, 3) := k_132 zcX5_ringWatches rfl rfl rfl rfl
theorem dX5_ringWatches_49 : decode cX5_ringWatches 49 = .ok (.goto (-24), 3) := k_167 zcX5_ringWatches rfl rfl rfl
theorem dX5_ringWatches_52 : decode cX5_ringWatches 52 = .ok (.iconst 0, 1) := k_3 zcX5_ringWatches rfl rfl
theorem dX5_ringWatches_53 : decode cX5_ringWatches 53 = .ok (.istore_n 2, 1) := k_61 zcX5_ringWatches rfl rfl
theorem dX5_ringWatches_54 : decode cX5_ringWatches 54 = .ok (.iload_n 2, 1) := k_28 zcX5_ringWatches rfl rfl
theorem dX5_ringWatches_55 : decode cX5_ringWatches 55 = .ok (.bipush 8, 2) := k_16 zcX5_ringWatches rfl rfl rfl
theorem dX5_ringWatches_57 : decode cX5_ringWatches 57 = .ok (.if_icmp .ge 50, 3) := k_162 zcX5_ringWatches rfl rfl rfl
theorem dX5_ringWatches_60 : decode cX5_ringWatches 60 = .ok (.aload_n 0, 1) := k_42 zcX5_ringWatches rfl rfl
theorem dX5_ringWatches_61 : decode cX5_ringWatches 61 = .ok (.getfield 32, 3) := k_180 zcX5_ringWatches rfl rfl rfl
theorem dX5_ringWatches_64 : decode cX5_ringWatches 64 = .ok (.iload_n 2, 1) := k_28 zcX5_ringWatches rfl rfl
theorem dX5_ringWatches_65 : decode cX5_ringWatches 65 = .ok (.aaload, 1) := k_50 zcX5_ringWatches rfl rfl
theorem dX5_ringWatches_66 : decode cX5_ringWatches 66 = .ok (.astore_n 3, 1) := k_78 zcX5_ringWatches rfl rfl
theorem dX5_ringWatches_67 : decode cX5_ringWatches 67 = .ok (.aload_n 3, 1) := k_45 zcX5_ringWatches rfl rfl
theorem dX5_ringWatches_68 : decode cX5_ringWatches 68 = .ok (.getfield 321, 3) := k_180 zcX5_ringWatches rfl rfl rfl
theorem dX5_ringWatches_71 : decode cX5_ringWatches 71 = .ok (.aload_n 1, 1) := k_43 zcX5_ringWatches rfl rfl
theorem dX5_ringWatches_72 : decode cX5_ringWatches 72 = .ok (.getfield 212, 3) := k_180 zcX5_ringWatches rfl rfl rfl
theorem dX5_ringWatches_75 : decode cX5_ringWatches 75 = .ok (.if_icmp .ne 26, 3) := k_160 zcX5_ringWatches rfl rfl rfl
theorem dX5_ringWatches_78 : decode cX5_ringWatches 78 = .ok (.aload_n 3, 1) := k_45 zcX5_ringWatches rfl rfl
theorem dX5_ringWatches_79 : decode cX5_ringWatches 79 = .ok (.aload_n 0, 1) := k_42 zcX5_ringWatches rfl rfl
theorem dX5_ringWatches_80 : decode cX5_ringWatches 80 = .ok (.getfield 40, 3) := k_180 zcX5_ringWatches rfl rfl rfl
theorem dX5_ringWatches_83 : decode cX5_ringWatches 83 = .ok (.aload_n 3, 1) := k_45 zcX5_ringWatches rfl rfl
theorem dX5_ringWatches_84 : decode cX5_ringWatches 84 = .ok (.getfield 327, 3) := k_180 zcX5_ringWatches rfl rfl rfl
theorem dX5_ringWatches_87 : decode cX5_ringWatches 87 = .ok (.aload_n 3, 1) := k_45 zcX5_ringWatches rfl rfl
theorem dX5_ringWatches_88 : decode cX5_ringWatches 88 = .ok (.getfield 328, 3) := k_180 zcX5_ringWatches rfl rfl rfl
theorem dX5_ringWatches_91 : decode cX5_ringWatches 91 = .ok (.invokevirtual 256, 3) := k_182 zcX5_ringWatches rfl rfl rfl
theorem dX5_ringWatches_94 : decode cX5_ringWatches 94 = .ok (.aload_n 1, 1) := k_43 zcX5_ringWatches rfl rfl
theorem dX5_ringWatches_95 : decode cX5_ringWatches 95 = .ok (.getfield 157, 3) := k_180 zcX5_ringWatches rfl rfl rfl
theorem dX5_ringWatches_98 : decode cX5_ringWatches 98 = .ok (.invokevirtual 331, 3) := k_182 zcX5_ringWatches rfl rfl rfl
theorem dX5_ringWatches_101 : decode cX5_ringWatches 101 = .ok (.iinc 2 1, 3) := k_132 zcX5_ringWatches rfl rfl rfl rfl
theorem dX5_ringWatches_104 : decode cX5_ringWatches 104 = .ok (.goto (-50), 3) := k_167 zcX5_ringWatches rfl rfl rfl
theorem dX5_ringWatches_107 : decode cX5_ringWatches 107 = .ok (.return_, 1) := k_177 zcX5_ringWatches rfl rfl
theorem dX5_isWatched_0 : decode cX5_isWatched 0 = .ok (.iconst 0, 1) := k_3 zcX5_isWatched rfl rfl
theorem dX5_isWatched_1 : decode cX5_isWatched 1 = .ok (.istore_n 2, 1) := k_61 zcX5_isWatched rfl rfl
theorem dX5_isWatched_2 : decode cX5_isWatched 2 = .ok (.iload_n 2, 1) := k_28 zcX5_isWatched rfl rfl
theorem dX5_isWatched_3 : decode cX5_isWatched 3 = .ok (.bipush 8, 2) := k_16 zcX5_isWatched rfl rfl rfl
theorem dX5_isWatched_5 : decode cX5_isWatched 5 = .ok (.if_icmp .ge 24, 3) := k_162 zcX5_isWatched rfl rfl rfl
theorem dX5_isWatched_8 : decode cX5_isWatched 8 = .ok (.aload_n 0, 1) := k_42 zcX5_isWatched rfl rfl
theorem dX5_isWatched_9 : decode cX5_isWatched 9 = .ok (.getfield 32, 3) := k_180 zcX5_isWatched rfl rfl rfl
theorem dX5_isWatched_12 : decode cX5_isWatched 12 = .ok (.iload_n 2, 1) := k_28 zcX5_isWatched rfl rfl
theorem dX5_isWatched_13 : decode cX5_isWatched 13 = .ok (.aaload, 1) := k_50 zcX5_isWatched rfl rfl
theorem dX5_isWatched_14 : decode cX5_isWatched 14 = .ok (.getfield 321, 3) := k_180 zcX5_isWatched rfl rfl rfl
theorem dX5_isWatched_17 : decode cX5_isWatched 17 = .ok (.iload_n 1, 1) := k_27 zcX5_isWatched rfl rfl
theorem dX5_isWatched_18 : decode cX5_isWatched 18 = .ok (.if_icmp .ne 5, 3) := k_160 zcX5_isWatched rfl rfl rfl
theorem dX5_isWatched_21 : decode cX5_isWatched 21 = .ok (.iconst 1, 1) := k_4 zcX5_isWatched rfl rfl
theorem dX5_isWatched_22 : decode cX5_isWatched 22 = .ok (.ireturn, 1) := k_172 zcX5_isWatched rfl rfl
theorem dX5_isWatched_23 : decode cX5_isWatched 23 = .ok (.iinc 2 1, 3) := k_132 zcX5_isWatched rfl rfl rfl rfl
theorem dX5_isWatched_26 : decode cX5_isWatched 26 = .ok (.goto (-24), 3) := k_167 zcX5_isWatched rfl rfl rfl
theorem dX5_isWatched_29 : decode cX5_isWatched 29 = .ok (.iconst 0, 1) := k_3 zcX5_isWatched rfl rfl
theorem dX5_isWatched_30 : decode cX5_isWatched 30 = .ok (.ireturn, 1) := k_172 zcX5_isWatched rfl rfl
theorem dX5_link_0 : decode cX5_link 0 = .ok (.aload_n 0, 1) := k_42 zcX5_link rfl rfl
theorem dX5_link_1 : decode cX5_link 1 = .ok (.iload_n 1, 1) := k_27 zcX5_link rfl rfl
theorem dX5_link_2 : decode cX5_link 2 = .ok (.iload 4, 2) := k_21 zcX5_link rfl rfl rfl
theorem dX5_link_4 : decode cX5_link 4 = .ok (.invokevirtual 248, 3) := k_182 zcX5_link rfl rfl rfl
theorem dX5_link_7 : decode cX5_link 7 = .ok (.astore 5, 2) := k_58 zcX5_link rfl rfl rfl
theorem dX5_link_9 : decode cX5_link 9 = .ok (.aload 5, 2) := k_25 zcX5_link rfl rfl rfl
theorem dX5_link_11 : decode cX5_link 11 = .ok (.ifnull 23, 3) := k_198 zcX5_link rfl rfl rfl
theorem dX5_link_14 : decode cX5_link 14 = .ok (.aload_n 0, 1) := k_42 zcX5_link rfl rfl
theorem dX5_link_15 : decode cX5_link 15 = .ok (.iload_n 2, 1) := k_28 zcX5_link rfl rfl
theorem dX5_link_16 : decode cX5_link 16 = .ok (.invokevirtual 123, 3) := k_182 zcX5_link rfl rfl rfl
theorem dX5_link_19 : decode cX5_link 19 = .ok (.ifnull 15, 3) := k_198 zcX5_link rfl rfl rfl
theorem dX5_link_22 : decode cX5_link 22 = .ok (.iload_n 1, 1) := k_27 zcX5_link rfl rfl
theorem dX5_link_23 : decode cX5_link 23 = .ok (.iload_n 2, 1) := k_28 zcX5_link rfl rfl
theorem dX5_link_24 : decode cX5_link 24 = .ok (.if_icmp .eq 10, 3) := k_159 zcX5_link rfl rfl rfl
theorem dX5_link_27 : decode cX5_link 27 = .ok (.iload_n 3, 1) := k_29 zcX5_link rfl rfl
theorem dX5_link_28 : decode cX5_link 28 = .ok (.invokestatic 285, 3) := k_184 zcX5_link rfl rfl rfl
theorem dX5_link_31 : decode cX5_link 31 = .ok (.ifCond .ne 5, 3) := k_154 zcX5_link rfl rfl rfl
theorem dX5_link_34 : decode cX5_link 34 = .ok (.iconst 0, 1) := k_3 zcX5_link rfl rfl
theorem dX5_link_35 : decode cX5_link 35 = .ok (.ireturn, 1) := k_172 zcX5_link rfl rfl
theorem dX5_link_36 : decode cX5_link 36 = .ok (.aload_n 0, 1) := k_42 zcX5_link rfl rfl
theorem dX5_link_37 : decode cX5_link 37 = .ok (.getfield 19, 3) := k_180 zcX5_link rfl rfl rfl
theorem dX5_link_40 : decode cX5_link 40 = .ok (.iload_n 2, 1) := k_28 zcX5_link rfl rfl
theorem dX5_link_41 : decode cX5_link 41 = .ok (.aaload, 1) := k_50 zcX5_link rfl rfl
theorem dX5_link_42 : decode cX5_link 42 = .ok (.getfield 215, 3) := k_180 zcX5_link rfl rfl rfl
theorem dX5_link_45 : decode cX5_link 45 = .ok (.iconst (-1), 1) := k_2 zcX5_link rfl rfl
theorem dX5_link_46 : decode cX5_link 46 = .ok (.if_icmp .ne 11, 3) := k_160 zcX5_link rfl rfl rfl
theorem dX5_link_49 : decode cX5_link 49 = .ok (.aload_n 0, 1) := k_42 zcX5_link rfl rfl
theorem dX5_link_50 : decode cX5_link 50 = .ok (.iload_n 1, 1) := k_27 zcX5_link rfl rfl
theorem dX5_link_51 : decode cX5_link 51 = .ok (.invokevirtual 335, 3) := k_182 zcX5_link rfl rfl rfl
theorem dX5_link_54 : decode cX5_link 54 = .ok (.ifCond .eq 5, 3) := k_153 zcX5_link rfl rfl rfl
theorem dX5_link_57 : decode cX5_link 57 = .ok (.iconst 0, 1) := k_3 zcX5_link rfl rfl
theorem dX5_link_58 : decode cX5_link 58 = .ok (.ireturn, 1) := k_172 zcX5_link rfl rfl
theorem dX5_link_59 : decode cX5_link 59 = .ok (.aload_n 0, 1) := k_42 zcX5_link rfl rfl
theorem dX5_link_60 : decode cX5_link 60 = .ok (.getfield 19, 3) := k_180 zcX5_link rfl rfl rfl
theorem dX5_link_63 : decode cX5_link 63 = .ok (.iload_n 1, 1) := k_27 zcX5_link rfl rfl
theorem dX5_link_64 : decode cX5_link 64 = .ok (.aaload, 1) := k_50 zcX5_link rfl rfl
theorem dX5_link_65 : decode cX5_link 65 = .ok (.iload_n 2, 1) := k_28 zcX5_link rfl rfl
theorem dX5_link_66 : decode cX5_link 66 = .ok (.iload_n 3, 1) := k_29 zcX5_link rfl rfl
theorem dX5_link_67 : decode cX5_link 67 = .ok (.iload 4, 2) := k_21 zcX5_link rfl rfl rfl
theorem dX5_link_69 : decode cX5_link 69 = .ok (.invokevirtual 338, 3) := k_182 zcX5_link rfl rfl rfl
theorem dX5_link_72 : decode cX5_link 72 = .ok (.iconst 1, 1) := k_4 zcX5_link rfl rfl
theorem dX5_link_73 : decode cX5_link 73 = .ok (.ireturn, 1) := k_172 zcX5_link rfl rfl
theorem dX5_unlink_0 : decode cX5_unlink 0 = .ok (.iload_n 1, 1) := k_27 zcX5_unlink rfl rfl
theorem dX5_unlink_1 : decode cX5_unlink 1 = .ok (.invokestatic 102, 3) := k_184 zcX5_unlink rfl rfl rfl
theorem dX5_unlink_4 : decode cX5_unlink 4 = .ok (.ifCond .eq 16, 3) := k_153 zcX5_unlink rfl rfl rfl
theorem dX5_unlink_7 : decode cX5_unlink 7 = .ok (.aload_n 0, 1) := k_42 zcX5_unlink rfl rfl
theorem dX5_unlink_8 : decode cX5_unlink 8 = .ok (.getfield 19, 3) := k_180 zcX5_unlink rfl rfl rfl
theorem dX5_unlink_11 : decode cX5_unlink 11 = .ok (.iload_n 1, 1) := k_27 zcX5_unlink rfl rfl
theorem dX5_unlink_12 : decode cX5_unlink 12 = .ok (.aaload, 1) := k_50 zcX5_unlink rfl rfl
theorem dX5_unlink_13 : decode cX5_unlink 13 = .ok (.getfield 215, 3) := k_180 zcX5_unlink rfl rfl rfl
theorem dX5_unlink_16 : decode cX5_unlink 16 = .ok (.iconst (-1), 1) := k_2 zcX5_unlink rfl rfl
theorem dX5_unlink_17 : decode cX5_unlink 17 = .ok (.if_icmp .ne 5, 3) := k_160 zcX5_unlink rfl rfl rfl
theorem dX5_unlink_20 : decode cX5_unlink 20 = .ok (.iconst 0, 1) := k_3 zcX5_unlink rfl rfl
theorem dX5_unlink_21 : decode cX5_unlink 21 = .ok (.ireturn, 1) := k_172 zcX5_unlink rfl rfl
theorem dX5_unlink_22 : decode cX5_unlink 22 = .ok (.aload_n 0, 1) := k_42 zcX5_unlink rfl rfl
theorem dX5_unlink_23 : decode cX5_unlink 23 = .ok (.getfield 19, 3) := k_180 zcX5_unlink rfl rfl rfl
theorem dX5_unlink_26 : decode cX5_unlink 26 = .ok (.iload_n 1, 1) := k_27 zcX5_unlink rfl rfl
theorem dX5_unlink_27 : decode cX5_unlink 27 = .ok (.aaload, 1) := k_50 zcX5_unlink rfl rfl
theorem dX5_unlink_28 : decode cX5_unlink 28 = .ok (.invokevirtual 340, 3) := k_182 zcX5_unlink rfl rfl rfl
theorem dX5_unlink_31 : decode cX5_unlink 31 = .ok (.iconst 1, 1) := k_4 zcX5_unlink rfl rfl
theorem dX5_unlink_32 : decode cX5_unlink 32 = .ok (.ireturn, 1) := k_172 zcX5_unlink rfl rfl
theorem dX5_linked_0 : decode cX5_linked 0 = .ok (.iload_n 1, 1) := k_27 zcX5_linked rfl rfl
theorem dX5_linked_1 : decode cX5_linked 1 = .ok (.invokestatic 102, 3) := k_184 zcX5_linked rfl rfl rfl
theorem dX5_linked_4 : decode cX5_linked 4 = .ok (.ifCond .eq 29, 3) := k_153 zcX5_linked rfl rfl rfl
theorem dX5_linked_7 : decode cX5_linked 7 = .ok (.aload_n 0, 1) := k_42 zcX5_linked rfl rfl
theorem dX5_linked_8 : decode cX5_linked 8 = .ok (.getfield 19, 3) := k_180 zcX5_linked rfl rfl rfl
theorem dX5_linked_11 : decode cX5_linked 11 = .ok (.iload_n 1, 1) := k_27 zcX5_linked rfl rfl
theorem dX5_linked_12 : decode cX5_linked 12 = .ok (.aaload, 1) := k_50 zcX5_linked rfl rfl
theorem dX5_linked_13 : decode cX5_linked 13 = .ok (.getfield 215, 3) := k_180 zcX5_linked rfl rfl rfl
theorem dX5_linked_16 : decode cX5_linked 16 = .ok (.iconst (-1), 1) := k_2 zcX5_linked rfl rfl
theorem dX5_linked_17 : decode cX5_linked 17 = .ok (.if_icmp .eq 16, 3) := k_159 zcX5_linked rfl rfl rfl
theorem dX5_linked_20 : decode cX5_linked 20 = .ok (.aload_n 0, 1) := k_42 zcX5_linked rfl rfl
theorem dX5_linked_21 : decode cX5_linked 21 = .ok (.getfield 19, 3) := k_180 zcX5_linked rfl rfl rfl
theorem dX5_linked_24 : decode cX5_linked 24 = .ok (.iload_n 1, 1) := k_27 zcX5_linked rfl rfl
theorem dX5_linked_25 : decode cX5_linked 25 = .ok (.aaload, 1) := k_50 zcX5_linked rfl rfl
theorem dX5_linked_26 : decode cX5_linked 26 = .ok (.iload_n 2, 1) := k_28 zcX5_linked rfl rfl
theorem dX5_linked_27 : decode cX5_linked 27 = .ok (.invokevirtual 343, 3) := k_182 zcX5_linked rfl rfl rfl
theorem dX5_linked_30 : decode cX5_linked 30 = .ok (.goto 4, 3) := k_167 zcX5_linked rfl rfl rfl
theorem dX5_linked_33 : decode cX5_linked 33 = .ok (.iconst (-1), 1) := k_2 zcX5_linked rfl rfl
theorem dX5_linked_34 : decode cX5_linked 34 = .ok (.ireturn, 1) := k_172 zcX5_linked rfl rfl
theorem dX5_isLinkedTo_0 : decode cX5_isLinkedTo 0 = .ok (.iconst 0, 1) := k_3 zcX5_isLinkedTo rfl rfl
theorem dX5_isLinkedTo_1 : decode cX5_isLinkedTo 1 = .ok (.istore_n 2, 1) := k_61 zcX5_isLinkedTo rfl rfl
theorem dX5_isLinkedTo_2 : decode cX5_isLinkedTo 2 = .ok (.iload_n 2, 1) := k_28 zcX5_isLinkedTo rfl rfl
theorem dX5_isLinkedTo_3 : decode cX5_isLinkedTo 3 = .ok (.iconst 4, 1) := k_7 zcX5_isLinkedTo rfl rfl
theorem dX5_isLinkedTo_4 : decode cX5_isLinkedTo 4 = .ok (.if_icmp .ge 24, 3) := k_162 zcX5_isLinkedTo rfl rfl rfl
theorem dX5_isLinkedTo_7 : decode cX5_isLinkedTo 7 = .ok (.aload_n 0, 1) := k_42 zcX5_isLinkedTo rfl rfl
theorem dX5_isLinkedTo_8 : decode cX5_isLinkedTo 8 = .ok (.getfield 19, 3) := k_180 zcX5_isLinkedTo rfl rfl rfl
theorem dX5_isLinkedTo_11 : decode cX5_isLinkedTo 11 = .ok (.iload_n 2, 1) := k_28 zcX5_isLinkedTo rfl rfl
theorem dX5_isLinkedTo_12 : decode cX5_isLinkedTo 12 = .ok (.aaload, 1) := k_50 zcX5_isLinkedTo rfl rfl
theorem dX5_isLinkedTo_13 : decode cX5_isLinkedTo 13 = .ok (.getfield 215, 3) := k_180 zcX5_isLinkedTo rfl rfl rfl
theorem dX5_isLinkedTo_16 : decode cX5_isLinkedTo 16 = .ok (.iload_n 1, 1) := k_27 zcX5_isLinkedTo rfl rfl
theorem dX5_isLinkedTo_17 : decode cX5_isLinkedTo 17 = .ok (.if_icmp .ne 5, 3) := k_160 zcX5_isLinkedTo rfl rfl rfl
theorem dX5_isLinkedTo_20 : decode cX5_isLinkedTo 20 = .ok (.iconst 1, 1) := k_4 zcX5_isLinkedTo rfl rfl
theorem dX5_isLinkedTo_21 : decode cX5_isLinkedTo 21 = .ok (.ireturn, 1) := k_172 zcX5_isLinkedTo rfl rfl
theorem dX5_isLinkedTo_22 : decode cX5_isLinkedTo 22 = .ok (.iinc 2 1, 3) := k_132 zcX5_isLinkedTo rfl rfl rfl rfl
theorem dX5_isLinkedTo_25 : decode cX5_isLinkedTo 25 = .ok (.goto (-23), 3) := k_167 zcX5_isLinkedTo rfl rfl rfl
theorem dX5_isLinkedTo_28 : decode cX5_isLinkedTo 28 = .ok (.iconst 0, 1) := k_3 zcX5_isLinkedTo rfl rfl
theorem dX5_isLinkedTo_29 : decode cX5_isLinkedTo 29 = .ok (.ireturn, 1) := k_172 zcX5_isLinkedTo rfl rfl
theorem dX5_endTies_0 : decode cX5_endTies 0 = .ok (.iconst 0, 1) := k_3 zcX5_endTies rfl rfl
theorem dX5_endTies_1 : decode cX5_endTies 1 = .ok (.istore_n 2, 1) := k_61 zcX5_endTies rfl rfl
theorem dX5_endTies_2 : decode cX5_endTies 2 = .ok (.iload_n 2, 1) := k_28 zcX5_endTies rfl rfl
theorem dX5_endTies_3 : decode cX5_endTies 3 = .ok (.bipush 8, 2) := k_16 zcX5_endTies rfl rfl rfl
theorem dX5_endTies_5 : decode cX5_endTies 5 = .ok (.if_icmp .ge 31, 3) := k_162 zcX5_endTies rfl rfl rfl
theorem dX5_endTies_8 : decode cX5_endTies 8 = .ok (.aload_n 0, 1) := k_42 zcX5_endTies rfl rfl
theorem dX5_endTies_9 : decode cX5_endTies 9 = .ok (.getfield 32, 3) := k_180 zcX5_endTies rfl rfl rfl
theorem dX5_endTies_12 : decode cX5_endTies 12 = .ok (.iload_n 2, 1) := k_28 zcX5_endTies rfl rfl
theorem dX5_endTies_13 : decode cX5_endTies 13 = .ok (.aaload, 1) := k_50 zcX5_endTies rfl rfl
theorem dX5_endTies_14 : decode cX5_endTies 14 = .ok (.getfield 321, 3) := k_180 zcX5_endTies rfl rfl rfl
theorem dX5_endTies_17 : decode cX5_endTies 17 = .ok (.iload_n 1, 1) := k_27 zcX5_endTies rfl rfl
theorem dX5_endTies_18 : decode cX5_endTies 18 = .ok (.if_icmp .ne 12, 3) := k_160 zcX5_endTies rfl rfl rfl
theorem dX5_endTies_21 : decode cX5_endTies 21 = .ok (.aload_n 0, 1) := k_42 zcX5_endTies rfl rfl
theorem dX5_endTies_22 : decode cX5_endTies 22 = .ok (.getfield 32, 3) := k_180 zcX5_endTies rfl rfl rfl
theorem dX5_endTies_25 : decode cX5_endTies 25 = .ok (.iload_n 2, 1) := k_28 zcX5_endTies rfl rfl
theorem dX5_endTies_26 : decode cX5_endTies 26 = .ok (.aaload, 1) := k_50 zcX5_endTies rfl rfl
theorem dX5_endTies_27 : decode cX5_endTies 27 = .ok (.invokevirtual 344, 3) := k_182 zcX5_endTies rfl rfl rfl
theorem dX5_endTies_30 : decode cX5_endTies 30 = .ok (.iinc 2 1, 3) := k_132 zcX5_endTies rfl rfl rfl rfl
theorem dX5_endTies_33 : decode cX5_endTies 33 = .ok (.goto (-31), 3) := k_167 zcX5_endTies rfl rfl rfl
theorem dX5_endTies_36 : decode cX5_endTies 36 = .ok (.iconst 0, 1) := k_3 zcX5_endTies rfl rfl
theorem dX5_endTies_37 : decode cX5_endTies 37 = .ok (.istore_n 2, 1) := k_61 zcX5_endTies rfl rfl
theorem dX5_endTies_38 : decode cX5_endTies 38 = .ok (.iload_n 2, 1) := k_28 zcX5_endTies rfl rfl
theorem dX5_endTies_39 : decode cX5_endTies 39 = .ok (.iconst 4, 1) := k_7 zcX5_endTies rfl rfl
theorem dX5_endTies_40 : decode cX5_endTies 40 = .ok (.if_icmp .ge 36, 3) := k_162 zcX5_endTies rfl rfl rfl
theorem dX5_endTies_43 : decode cX5_endTies 43 = .ok (.iload_n 2, 1) := k_28 zcX5_endTies rfl rfl
theorem dX5_endTies_44 : decode cX5_endTies 44 = .ok (.iload_n 1, 1) := k_27 zcX5_endTies rfl rfl
theorem dX5_endTies_45 : decode cX5_endTies 45 = .ok (.if_icmp .eq 16, 3) := k_159 zcX5_endTies rfl rfl rfl
theorem dX5_endTies_48 : decode cX5_endTies 48 = .ok (.aload_n 0, 1) := k_42 zcX5_endTies rfl rfl
theorem dX5_endTies_49 : decode cX5_endTies 49 = .ok (.getfield 19, 3) := k_180 zcX5_endTies rfl rfl rfl
theorem dX5_endTies_52 : decode cX5_endTies 52 = .ok (.iload_n 2, 1) := k_28 zcX5_endTies rfl rfl
theorem dX5_endTies_53 : decode cX5_endTies 53 = .ok (.aaload, 1) := k_50 zcX5_endTies rfl rfl
theorem dX5_endTies_54 : decode cX5_endTies 54 = .ok (.getfield 215, 3) := k_180 zcX5_endTies rfl rfl rfl
theorem dX5_endTies_57 : decode cX5_endTies 57 = .ok (.iload_n 1, 1) := k_27 zcX5_endTies rfl rfl
theorem dX5_endTies_58 : decode cX5_endTies 58 = .ok (.if_icmp .ne 12, 3) := k_160 zcX5_endTies rfl rfl rfl
theorem dX5_endTies_61 : decode cX5_endTies 61 = .ok (.aload_n 0, 1) := k_42 zcX5_endTies rfl rfl
theorem dX5_endTies_62 : decode cX5_endTies 62 = .ok (.getfield 19, 3) := k_180 zcX5_endTies rfl rfl rfl
theorem dX5_endTies_65 : decode cX5_endTies 65 = .ok (.iload_n 2, 1) := k_28 zcX5_endTies rfl rfl
theorem dX5_endTies_66 : decode cX5_endTies 66 = .ok (.aaload, 1) := k_50 zcX5_endTies rfl rfl
theorem dX5_endTies_67 : decode cX5_endTies 67 = .ok (.invokevirtual 340, 3) := k_182 zcX5_endTies rfl rfl rfl
theorem dX5_endTies_70 : decode cX5_endTies 70 = .ok (.iinc 2 1, 3) := k_132 zcX5_endTies rfl rfl rfl rfl
theorem dX5_endTies_73 : decode cX5_endTies 73 = .ok (.goto (-35), 3) := k_167 zcX5_endTies rfl rfl rfl
theorem dX5_endTies_76 : decode cX5_endTies 76 = .ok (.return_, 1) := k_177 zcX5_endTies rfl rfl
theorem dX5_shortest_0 : decode cX5_shortest 0 = .ok (.aload_n 0, 1) := k_42 zcX5_shortest rfl rfl
theorem dX5_shortest_1 : decode cX5_shortest 1 = .ok (.iload_n 1, 1) := k_27 zcX5_shortest rfl rfl
theorem dX5_shortest_2 : decode cX5_shortest 2 = .ok (.iload_n 2, 1) := k_28 zcX5_shortest rfl rfl
theorem dX5_shortest_3 : decode cX5_shortest 3 = .ok (.invokevirtual 248, 3) := k_182 zcX5_shortest rfl rfl rfl
theorem dX5_shortest_6 : decode cX5_shortest 6 = .ok (.astore 5, 2) := k_58 zcX5_shortest rfl rfl rfl
theorem dX5_shortest_8 : decode cX5_shortest 8 = .ok (.aload 5, 2) := k_25 zcX5_shortest rfl rfl rfl
theorem dX5_shortest_10 : decode cX5_shortest 10 = .ok (.ifnull 13, 3) := k_198 zcX5_shortest rfl rfl rfl
theorem dX5_shortest_13 : decode cX5_shortest 13 = .ok (.iload 4, 2) := k_21 zcX5_shortest rfl rfl rfl
theorem dX5_shortest_15 : decode cX5_shortest 15 = .ok (.iconst 0, 1) := k_3 zcX5_shortest rfl rfl
theorem dX5_shortest_16 : decode cX5_shortest 16 = .ok (.iconst 1, 1) := k_4 zcX5_shortest rfl rfl
theorem dX5_shortest_17 : decode cX5_shortest 17 = .ok (.invokestatic 59, 3) := k_184 zcX5_shortest rfl rfl rfl
theorem dX5_shortest_20 : decode cX5_shortest 20 = .ok (.ifCond .ne 5, 3) := k_154 zcX5_shortest rfl rfl rfl
theorem dX5_shortest_23 : decode cX5_shortest 23 = .ok (.iconst (-1), 1) := k_2 zcX5_shortest rfl rfl
theorem dX5_shortest_24 : decode cX5_shortest 24 = .ok (.ireturn, 1) := k_172 zcX5_shortest rfl rfl
theorem dX5_shortest_25 : decode cX5_shortest 25 = .ok (.aload 5, 2) := k_25 zcX5_shortest rfl rfl rfl
theorem dX5_shortest_27 : decode cX5_shortest 27 = .ok (.getfield 154, 3) := k_180 zcX5_shortest rfl rfl rfl
theorem dX5_shortest_30 : decode cX5_shortest 30 = .ok (.iconst 1, 1) := k_4 zcX5_shortest rfl rfl
theorem dX5_shortest_31 : decode cX5_shortest 31 = .ok (.iadd, 1) := k_96 zcX5_shortest rfl rfl
theorem dX5_shortest_32 : decode cX5_shortest 32 = .ok (.istore 6, 2) := k_54 zcX5_shortest rfl rfl rfl
theorem dX5_shortest_34 : decode cX5_shortest 34 = .ok (.iconst (-1), 1) := k_2 zcX5_shortest rfl rfl
theorem dX5_shortest_35 : decode cX5_shortest 35 = .ok (.istore 7, 2) := k_54 zcX5_shortest rfl rfl rfl
theorem dX5_shortest_37 : decode cX5_shortest 37 = .ok (.iconst 0, 1) := k_3 zcX5_shortest rfl rfl
theorem dX5_shortest_38 : decode cX5_shortest 38 = .ok (.istore 8, 2) := k_54 zcX5_shortest rfl rfl rfl
theorem dX5_shortest_40 : decode cX5_shortest 40 = .ok (.iload 8, 2) := k_21 zcX5_shortest rfl rfl rfl
theorem dX5_shortest_42 : decode cX5_shortest 42 = .ok (.aload 5, 2) := k_25 zcX5_shortest rfl rfl rfl
theorem dX5_shortest_44 : decode cX5_shortest 44 = .ok (.getfield 154, 3) := k_180 zcX5_shortest rfl rfl rfl
theorem dX5_shortest_47 : decode cX5_shortest 47 = .ok (.if_icmp .ge 93, 3) := k_162 zcX5_shortest rfl rfl rfl
theorem dX5_shortest_50 : decode cX5_shortest 50 = .ok (.aload_n 0, 1) := k_42 zcX5_shortest rfl rfl
theorem dX5_shortest_51 : decode cX5_shortest 51 = .ok (.getfield 40, 3) := k_180 zcX5_shortest rfl rfl rfl
theorem dX5_shortest_54 : decode cX5_shortest 54 = .ok (.aload 5, 2) := k_25 zcX5_shortest rfl rfl rfl
theorem dX5_shortest_56 : decode cX5_shortest 56 = .ok (.getfield 98, 3) := k_180 zcX5_shortest rfl rfl rfl
theorem dX5_shortest_59 : decode cX5_shortest 59 = .ok (.invokevirtual 251, 3) := k_182 zcX5_shortest rfl rfl rfl
theorem dX5_shortest_62 : decode cX5_shortest 62 = .ok (.iload 8, 2) := k_21 zcX5_shortest rfl rfl rfl
theorem dX5_shortest_64 : decode cX5_shortest 64 = .ok (.istore 9, 2) := k_54 zcX5_shortest rfl rfl rfl
theorem dX5_shortest_66 : decode cX5_shortest 66 = .ok (.iload 9, 2) := k_21 zcX5_shortest rfl rfl rfl
theorem dX5_shortest_68 : decode cX5_shortest 68 = .ok (.aload 5, 2) := k_25 zcX5_shortest rfl rfl rfl
theorem dX5_shortest_70 : decode cX5_shortest 70 = .ok (.getfield 154, 3) := k_180 zcX5_shortest rfl rfl rfl
theorem dX5_shortest_73 : decode cX5_shortest 73 = .ok (.if_icmp .ge 61, 3) := k_162 zcX5_shortest rfl rfl rfl
theorem dX5_shortest_76 : decode cX5_shortest 76 = .ok (.iload 9, 2) := k_21 zcX5_shortest rfl rfl rfl
theorem dX5_shortest_78 : decode cX5_shortest 78 = .ok (.iload 8, 2) := k_21 zcX5_shortest rfl rfl rfl
theorem dX5_shortest_80 : decode cX5_shortest 80 = .ok (.isub, 1) := k_100 zcX5_shortest rfl rfl
theorem dX5_shortest_81 : decode cX5_shortest 81 = .ok (.iconst 1, 1) := k_4 zcX5_shortest rfl rfl
theorem dX5_shortest_82 : decode cX5_shortest 82 = .ok (.iadd, 1) := k_96 zcX5_shortest rfl rfl
theorem dX5_shortest_83 : decode cX5_shortest 83 = .ok (.iload 6, 2) := k_21 zcX5_shortest rfl rfl rfl
theorem dX5_shortest_85 : decode cX5_shortest 85 = .ok (.if_icmp .ge 49, 3) := k_162 zcX5_shortest rfl rfl rfl
theorem dX5_shortest_88 : decode cX5_shortest 88 = .ok (.aload_n 0, 1) := k_42 zcX5_shortest rfl rfl
theorem dX5_shortest_89 : decode cX5_shortest 89 = .ok (.getfield 40, 3) := k_180 zcX5_shortest rfl rfl rfl
theorem dX5_shortest_92 : decode cX5_shortest 92 = .ok (.aload 5, 2) := k_25 zcX5_shortest rfl rfl rfl
theorem dX5_shortest_94 : decode cX5_shortest 94 = .ok (.getfield 176, 3) := k_180 zcX5_shortest rfl rfl rfl
theorem dX5_shortest_97 : decode cX5_shortest 97 = .ok (.iload 9, 2) := k_21 zcX5_shortest rfl rfl rfl
theorem dX5_shortest_99 : decode cX5_shortest 99 = .ok (.iaload, 1) := k_46 zcX5_shortest rfl rfl
theorem dX5_shortest_100 : decode cX5_shortest 100 = .ok (.invokevirtual 253, 3) := k_182 zcX5_shortest rfl rfl rfl
theorem dX5_shortest_103 : decode cX5_shortest 103 = .ok (.aload_n 0, 1) := k_42 zcX5_shortest rfl rfl
theorem dX5_shortest_104 : decode cX5_shortest 104 = .ok (.getfield 40, 3) := k_180 zcX5_shortest rfl rfl rfl
theorem dX5_shortest_107 : decode cX5_shortest 107 = .ok (.iload_n 2, 1) := k_28 zcX5_shortest rfl rfl
theorem dX5_shortest_108 : decode cX5_shortest 108 = .ok (.iload_n 3, 1) := k_29 zcX5_shortest rfl rfl
theorem dX5_shortest_109 : decode cX5_shortest 109 = .ok (.invokevirtual 256, 3) := k_182 zcX5_shortest rfl rfl rfl
theorem dX5_shortest_112 : decode cX5_shortest 112 = .ok (.ifCond .eq 16, 3) := k_153 zcX5_shortest rfl rfl rfl
theorem dX5_shortest_115 : decode cX5_shortest 115 = .ok (.iload 9, 2) := k_21 zcX5_shortest rfl rfl rfl
theorem dX5_shortest_117 : decode cX5_shortest 117 = .ok (.iload 8, 2) := k_21 zcX5_shortest rfl rfl rfl
theorem dX5_shortest_119 : decode cX5_shortest 119 = .ok (.isub, 1) := k_100 zcX5_shortest rfl rfl
theorem dX5_shortest_120 : decode cX5_shortest 120 = .ok (.iconst 1, 1) := k_4 zcX5_shortest rfl rfl
theorem dX5_shortest_121 : decode cX5_shortest 121 = .ok (.iadd, 1) := k_96 zcX5_shortest rfl rfl
theorem dX5_shortest_122 : decode cX5_shortest 122 = .ok (.istore 6, 2) := k_54 zcX5_shortest rfl rfl rfl
theorem dX5_shortest_124 : decode cX5_shortest 124 = .ok (.iload 8, 2) := k_21 zcX5_shortest rfl rfl rfl
theorem dX5_shortest_126 : decode cX5_shortest 126 = .ok (.istore 7, 2) := k_54 zcX5_shortest rfl rfl rfl
theorem dX5_shortest_128 : decode cX5_shortest 128 = .ok (.iinc 9 1, 3) := k_132 zcX5_shortest rfl rfl rfl rfl
theorem dX5_shortest_131 : decode cX5_shortest 131 = .ok (.goto (-65), 3) := k_167 zcX5_shortest rfl rfl rfl
theorem dX5_shortest_134 : decode cX5_shortest 134 = .ok (.iinc 8 1, 3) := k_132 zcX5_shortest rfl rfl rfl rfl
theorem dX5_shortest_137 : decode cX5_shortest 137 = .ok (.goto (-97), 3) := k_167 zcX5_shortest rfl rfl rfl
theorem dX5_shortest_140 : decode cX5_shortest 140 = .ok (.iload 7, 2) := k_21 zcX5_shortest rfl rfl rfl
theorem dX5_shortest_142 : decode cX5_shortest 142 = .ok (.iconst (-1), 1) := k_2 zcX5_shortest rfl rfl
theorem dX5_shortest_143 : decode cX5_shortest 143 = .ok (.if_icmp .ne 7, 3) := k_160 zcX5_shortest rfl rfl rfl
theorem dX5_shortest_146 : decode cX5_shortest 146 = .ok (.iconst (-1), 1) := k_2 zcX5_shortest rfl rfl
theorem dX5_shortest_147 : decode cX5_shortest 147 = .ok (.goto 15, 3) := k_167 zcX5_shortest rfl rfl rfl
theorem dX5_shortest_150 : decode cX5_shortest 150 = .ok (.iload 4, 2) := k_21 zcX5_shortest rfl rfl rfl
theorem dX5_shortest_152 : decode cX5_shortest 152 = .ok (.ifCond .ne 8, 3) := k_154 zcX5_shortest rfl rfl rfl
theorem dX5_shortest_155 : decode cX5_shortest 155 = .ok (.iload 6, 2) := k_21 zcX5_shortest rfl rfl rfl
theorem dX5_shortest_157 : decode cX5_shortest 157 = .ok (.goto 5, 3) := k_167 zcX5_shortest rfl rfl rfl
theorem dX5_shortest_160 : decode cX5_shortest 160 = .ok (.iload 7, 2) := k_21 zcX5_shortest rfl rfl rfl
theorem dX5_shortest_162 : decode cX5_shortest 162 = .ok (.ireturn, 1) := k_172 zcX5_shortest rfl rfl
theorem dX5_windows_0 : decode cX5_windows 0 = .ok (.aload_n 0, 1) := k_42 zcX5_windows rfl rfl
theorem dX5_windows_1 : decode cX5_windows 1 = .ok (.iload_n 1, 1) := k_27 zcX5_windows rfl rfl
theorem dX5_windows_2 : decode cX5_windows 2 = .ok (.iload_n 2, 1) := k_28 zcX5_windows rfl rfl
theorem dX5_windows_3 : decode cX5_windows 3 = .ok (.invokevirtual 248, 3) := k_182 zcX5_windows rfl rfl rfl
theorem dX5_windows_6 : decode cX5_windows 6 = .ok (.astore 5, 2) := k_58 zcX5_windows rfl rfl rfl
theorem dX5_windows_8 : decode cX5_windows 8 = .ok (.aload 5, 2) := k_25 zcX5_windows rfl rfl rfl
theorem dX5_windows_10 : decode cX5_windows 10 = .ok (.ifnonnull 5, 3) := k_199 zcX5_windows rfl rfl rfl
theorem dX5_windows_13 : decode cX5_windows 13 = .ok (.iconst (-1), 1) := k_2 zcX5_windows rfl rfl
theorem dX5_windows_14 : decode cX5_windows 14 = .ok (.ireturn, 1) := k_172 zcX5_windows rfl rfl
theorem dX5_windows_15 : decode cX5_windows 15 = .ok (.iconst 0, 1) := k_3 zcX5_windows rfl rfl
theorem dX5_windows_16 : decode cX5_windows 16 = .ok (.istore 6, 2) := k_54 zcX5_windows rfl rfl rfl
theorem dX5_windows_18 : decode cX5_windows 18 = .ok (.iconst 0, 1) := k_3 zcX5_windows rfl rfl
theorem dX5_windows_19 : decode cX5_windows 19 = .ok (.istore 7, 2) := k_54 zcX5_windows rfl rfl rfl
theorem dX5_windows_21 : decode cX5_windows 21 = .ok (.iload 7, 2) := k_21 zcX5_windows rfl rfl rfl
theorem dX5_windows_23 : decode cX5_windows 23 = .ok (.aload 5, 2) := k_25 zcX5_windows rfl rfl rfl
theorem dX5_windows_25 : decode cX5_windows 25 = .ok (.getfield 154, 3) := k_180 zcX5_windows rfl rfl rfl
theorem dX5_windows_28 : decode cX5_windows 28 = .ok (.if_icmp .ge 94, 3) := k_162 zcX5_windows rfl rfl rfl
theorem dX5_windows_31 : decode cX5_windows 31 = .ok (.aload_n 0, 1) := k_42 zcX5_windows rfl rfl
theorem dX5_windows_32 : decode cX5_windows 32 = .ok (.getfield 40, 3) := k_180 zcX5_windows rfl rfl rfl
theorem dX5_windows_35 : decode cX5_windows 35 = .ok (.aload 5, 2) := k_25 zcX5_windows rfl rfl rfl
theorem dX5_windows_37 : decode cX5_windows 37 = .ok (.getfield 98, 3) := k_180 zcX5_windows rfl rfl rfl
theorem dX5_windows_40 : decode cX5_windows 40 = .ok (.invokevirtual 251, 3) := k_182 zcX5_windows rfl rfl rfl
theorem dX5_windows_43 : decode cX5_windows 43 = .ok (.iload 7, 2) := k_21 zcX5_windows rfl rfl rfl
theorem dX5_windows_45 : decode cX5_windows 45 = .ok (.istore 8, 2) := k_54 zcX5_windows rfl rfl rfl
theorem dX5_windows_47 : decode cX5_windows 47 = .ok (.iload 8, 2) := k_21 zcX5_windows rfl rfl rfl
theorem dX5_windows_49 : decode cX5_windows 49 = .ok (.aload 5, 2) := k_25 zcX5_windows rfl rfl rfl
theorem dX5_windows_51 : decode cX5_windows 51 = .ok (.getfield 154, 3) := k_180 zcX5_windows rfl rfl rfl
theorem dX5_windows_54 : decode cX5_windows 54 = .ok (.if_icmp .ge 62, 3) := k_162 zcX5_windows rfl rfl rfl
theorem dX5_windows_57 : decode cX5_windows 57 = .ok (.aload_n 0, 1) := k_42 zcX5_windows rfl rfl
theorem dX5_windows_58 : decode cX5_windows 58 = .ok (.getfield 40, 3) := k_180 zcX5_windows rfl rfl rfl
theorem dX5_windows_61 : decode cX5_windows 61 = .ok (.aload 5, 2) := k_25 zcX5_windows rfl rfl rfl
theorem dX5_windows_63 : decode cX5_windows 63 = .ok (.getfield 176, 3) := k_180 zcX5_windows rfl rfl rfl
theorem dX5_windows_66 : decode cX5_windows 66 = .ok (.iload 8, 2) := k_21 zcX5_windows rfl rfl rfl
theorem dX5_windows_68 : decode cX5_windows 68 = .ok (.iaload, 1) := k_46 zcX5_windows rfl rfl
theorem dX5_windows_69 : decode cX5_windows 69 = .ok (.invokevirtual 253, 3) := k_182 zcX5_windows rfl rfl rfl
theorem dX5_windows_72 : decode cX5_windows 72 = .ok (.aload_n 0, 1) := k_42 zcX5_windows rfl rfl
theorem dX5_windows_73 : decode cX5_windows 73 = .ok (.getfield 40, 3) := k_180 zcX5_windows rfl rfl rfl
theorem dX5_windows_76 : decode cX5_windows 76 = .ok (.iload_n 2, 1) := k_28 zcX5_windows rfl rfl
theorem dX5_windows_77 : decode cX5_windows 77 = .ok (.invokevirtual 273, 3) := k_182 zcX5_windows rfl rfl rfl
theorem dX5_windows_80 : decode cX5_windows 80 = .ok (.istore 9, 2) := k_54 zcX5_windows rfl rfl rfl
theorem dX5_windows_82 : decode cX5_windows 82 = .ok (.iload 6, 2) := k_21 zcX5_windows rfl rfl rfl
theorem dX5_windows_84 : decode cX5_windows 84 = .ok (.iload 9, 2) := k_21 zcX5_windows rfl rfl rfl
theorem dX5_windows_86 : decode cX5_windows 86 = .ok (.ldc 175, 2) := k_18 zcX5_windows rfl rfl rfl
theorem dX5_windows_88 : decode cX5_windows 88 = .ok (.if_icmp .eq 18, 3) := k_159 zcX5_windows rfl rfl rfl
theorem dX5_windows_91 : decode cX5_windows 91 = .ok (.iload 9, 2) := k_21 zcX5_windows rfl rfl rfl
theorem dX5_windows_93 : decode cX5_windows 93 = .ok (.iload_n 3, 1) := k_29 zcX5_windows rfl rfl
theorem dX5_windows_94 : decode cX5_windows 94 = .ok (.iload 4, 2) := k_21 zcX5_windows rfl rfl rfl
theorem dX5_windows_96 : decode cX5_windows 96 = .ok (.invokestatic 59, 3) := k_184 zcX5_windows rfl rfl rfl
theorem dX5_windows_99 : decode cX5_windows 99 = .ok (.ifCond .eq 7, 3) := k_153 zcX5_windows rfl rfl rfl
theorem dX5_windows_102 : decode cX5_windows 102 = .ok (.iconst 1, 1) := k_4 zcX5_windows rfl rfl
theorem dX5_windows_103 : decode cX5_windows 103 = .ok (.goto 4, 3) := k_167 zcX5_windows rfl rfl rfl
theorem dX5_windows_106 : decode cX5_windows 106 = .ok (.iconst 0, 1) := k_3 zcX5_windows rfl rfl
theorem dX5_windows_107 : decode cX5_windows 107 = .ok (.iadd, 1) := k_96 zcX5_windows rfl rfl
theorem dX5_windows_108 : decode cX5_windows 108 = .ok (.istore 6, 2) := k_54 zcX5_windows rfl rfl rfl
theorem dX5_windows_110 : decode cX5_windows 110 = .ok (.iinc 8 1, 3) := k_132 zcX5_windows rfl rfl rfl rfl
theorem dX5_windows_113 : decode cX5_windows 113 = .ok (.goto (-66), 3) := k_167 zcX5_windows rfl rfl rfl
theorem dX5_windows_116 : decode cX5_windows 116 = .ok (.iinc 7 1, 3) := k_132 zcX5_windows rfl rfl rfl rfl
theorem dX5_windows_119 : decode cX5_windows 119 = .ok (.goto (-98), 3) := k_167 zcX5_windows rfl rfl rfl
theorem dX5_windows_122 : decode cX5_windows 122 = .ok (.iload 6, 2) := k_21 zcX5_windows rfl rfl rfl
theorem dX5_windows_124 : decode cX5_windows 124 = .ok (.ireturn, 1) := k_172 zcX5_windows rfl rfl
theorem dX5_were_0 : decode cX5_were 0 = .ok (.aload_n 0, 1) := k_42 zcX5_were rfl rfl
theorem dX5_were_1 : decode cX5_were 1 = .ok (.iload_n 1, 1) := k_27 zcX5_were rfl rfl
theorem dX5_were_2 : decode cX5_were 2 = .ok (.iload 4, 2) := k_21 zcX5_were rfl rfl rfl
theorem dX5_were_4 : decode cX5_were 4 = .ok (.invokevirtual 248, 3) := k_182 zcX5_were rfl rfl rfl
theorem dX5_were_7 : decode cX5_were 7 = .ok (.astore 5, 2) := k_58 zcX5_were rfl rfl rfl
theorem dX5_were_9 : decode cX5_were 9 = .ok (.aload 5, 2) := k_25 zcX5_were rfl rfl rfl
theorem dX5_were_11 : decode cX5_were 11 = .ok (.ifnull 34, 3) := k_198 zcX5_were rfl rfl rfl
theorem dX5_were_14 : decode cX5_were 14 = .ok (.iload_n 2, 1) := k_28 zcX5_were rfl rfl
theorem dX5_were_15 : decode cX5_were 15 = .ok (.invokestatic 127, 3) := k_184 zcX5_were rfl rfl rfl
theorem dX5_were_18 : decode cX5_were 18 = .ok (.ifCond .eq 27, 3) := k_153 zcX5_were rfl rfl rfl
theorem dX5_were_21 : decode cX5_were 21 = .ok (.iload_n 3, 1) := k_29 zcX5_were rfl rfl
theorem dX5_were_22 : decode cX5_were 22 = .ok (.invokestatic 130, 3) := k_184 zcX5_were rfl rfl rfl
theorem dX5_were_25 : decode cX5_were 25 = .ok (.ifCond .eq 20, 3) := k_153 zcX5_were rfl rfl rfl
theorem dX5_were_28 : decode cX5_were 28 = .ok (.aload 5, 2) := k_25 zcX5_were rfl rfl rfl
theorem dX5_were_30 : decode cX5_were 30 = .ok (.iload_n 2, 1) := k_28 zcX5_were rfl rfl
theorem dX5_were_31 : decode cX5_were 31 = .ok (.invokevirtual 133, 3) := k_182 zcX5_were rfl rfl rfl
theorem dX5_were_34 : decode cX5_were 34 = .ok (.ifCond .ne 11, 3) := k_154 zcX5_were rfl rfl rfl
theorem dX5_were_37 : decode cX5_were 37 = .ok (.aload 5, 2) := k_25 zcX5_were rfl rfl rfl
theorem dX5_were_39 : decode cX5_were 39 = .ok (.invokevirtual 139, 3) := k_182 zcX5_were rfl rfl rfl
theorem dX5_were_42 : decode cX5_were 42 = .ok (.ifCond .eq 6, 3) := k_153 zcX5_were rfl rfl rfl
theorem dX5_were_45 : decode cX5_were 45 = .ok (.ldc 175, 2) := k_18 zcX5_were rfl rfl rfl
theorem dX5_were_47 : decode cX5_were 47 = .ok (.ireturn, 1) := k_172 zcX5_were rfl rfl
theorem dX5_were_48 : decode cX5_were 48 = .ok (.aload 5, 2) := k_25 zcX5_were rfl rfl rfl
theorem dX5_were_50 : decode cX5_were 50 = .ok (.iload_n 2, 1) := k_28 zcX5_were rfl rfl
theorem dX5_were_51 : decode cX5_were 51 = .ok (.i2l, 1) := k_133 zcX5_were rfl rfl
theorem dX5_were_52 : decode cX5_were 52 = .ok (.invokevirtual 167, 3) := k_182 zcX5_were rfl rfl rfl
theorem dX5_were_55 : decode cX5_were 55 = .ok (.istore 6, 2) := k_54 zcX5_were rfl rfl rfl
theorem dX5_were_57 : decode cX5_were 57 = .ok (.aload 5, 2) := k_25 zcX5_were rfl rfl rfl
theorem dX5_were_59 : decode cX5_were 59 = .ok (.getfield 157, 3) := k_180 zcX5_were rfl rfl rfl
theorem dX5_were_62 : decode cX5_were 62 = .ok (.iload_n 2, 1) := k_28 zcX5_were rfl rfl
theorem dX5_were_63 : decode cX5_were 63 = .ok (.invokestatic 239, 3) := k_184 zcX5_were rfl rfl rfl
theorem dX5_were_66 : decode cX5_were 66 = .ok (.istore 7, 2) := k_54 zcX5_were rfl rfl rfl
theorem dX5_were_68 : decode cX5_were 68 = .ok (.aload_n 0, 1) := k_42 zcX5_were rfl rfl
theorem dX5_were_69 : decode cX5_were 69 = .ok (.getfield 40, 3) := k_180 zcX5_were rfl rfl rfl
theorem dX5_were_72 : decode cX5_were 72 = .ok (.aload 5, 2) := k_25 zcX5_were rfl rfl rfl
theorem dX5_were_74 : decode cX5_were 74 = .ok (.getfield 98, 3) := k_180 zcX5_were rfl rfl rfl
theorem dX5_were_77 : decode cX5_were 77 = .ok (.invokevirtual 251, 3) := k_182 zcX5_were rfl rfl rfl
theorem dX5_were_80 : decode cX5_were 80 = .ok (.iconst 0, 1) := k_3 zcX5_were rfl rfl
theorem dX5_were_81 : decode cX5_were 81 = .ok (.istore 8, 2) := k_54 zcX5_were rfl rfl rfl
theorem dX5_were_83 : decode cX5_were 83 = .ok (.iload 8, 2) := k_21 zcX5_were rfl rfl rfl
theorem dX5_were_85 : decode cX5_were 85 = .ok (.aload 5, 2) := k_25 zcX5_were rfl rfl rfl
theorem dX5_were_87 : decode cX5_were 87 = .ok (.getfield 154, 3) := k_180 zcX5_were rfl rfl rfl
theorem dX5_were_90 : decode cX5_were 90 = .ok (.if_icmp .gt 96, 3) := k_163 zcX5_were rfl rfl rfl
theorem dX5_were_93 : decode cX5_were 93 = .ok (.iload 8, 2) := k_21 zcX5_were rfl rfl rfl
theorem dX5_were_95 : decode cX5_were 95 = .ok (.iload 6, 2) := k_21 zcX5_were rfl rfl rfl
theorem dX5_were_97 : decode cX5_were 97 = .ok (.if_icmp .ge 8, 3) := k_162 zcX5_were rfl rfl rfl
theorem dX5_were_100 : decode cX5_were 100 = .ok (.iload 8, 2) := k_21 zcX5_were rfl rfl rfl
theorem dX5_were_102 : decode cX5_were 102 = .ok (.goto 7, 3) := k_167 zcX5_were rfl rfl rfl
theorem dX5_were_105 : decode cX5_were 105 = .ok (.iload 8, 2) := k_21 zcX5_were rfl rfl rfl
theorem dX5_were_107 : decode cX5_were 107 = .ok (.iconst 1, 1) := k_4 zcX5_were rfl rfl
theorem dX5_were_108 : decode cX5_were 108 = .ok (.isub, 1) := k_100 zcX5_were rfl rfl
theorem dX5_were_109 : decode cX5_were 109 = .ok (.istore 9, 2) := k_54 zcX5_were rfl rfl rfl
theorem dX5_were_111 : decode cX5_were 111 = .ok (.iload 8, 2) := k_21 zcX5_were rfl rfl rfl
theorem dX5_were_113 : decode cX5_were 113 = .ok (.iload 6, 2) := k_21 zcX5_were rfl rfl rfl
theorem dX5_were_115 : decode cX5_were 115 = .ok (.if_icmp .ne 7, 3) := k_160 zcX5_were rfl rfl rfl
theorem dX5_were_118 : decode cX5_were 118 = .ok (.iload_n 2, 1) := k_28 zcX5_were rfl rfl
theorem dX5_were_119 : decode cX5_were 119 = .ok (.goto 11, 3) := k_167 zcX5_were rfl rfl rfl
theorem dX5_were_122 : decode cX5_were 122 = .ok (.aload 5, 2) := k_25 zcX5_were rfl rfl rfl
theorem dX5_were_124 : decode cX5_were 124 = .ok (.getfield 198, 3) := k_180 zcX5_were rfl rfl rfl
theorem dX5_were_127 : decode cX5_were 127 = .ok (.iload 9, 2) := k_21 zcX5_were rfl rfl rfl
theorem dX5_were_129 : decode cX5_were 129 = .ok (.iaload, 1) := k_46 zcX5_were rfl rfl
theorem dX5_were_130 : decode cX5_were 130 = .ok (.istore 10, 2) := k_54 zcX5_were rfl rfl rfl
theorem dX5_were_132 : decode cX5_were 132 = .ok (.aload 5, 2) := k_25 zcX5_were rfl rfl rfl
theorem dX5_were_134 : decode cX5_were 134 = .ok (.aload 5, 2) := k_25 zcX5_were rfl rfl rfl
theorem dX5_were_136 : decode cX5_were 136 = .ok (.getfield 154, 3) := k_180 zcX5_were rfl rfl rfl
theorem dX5_were_139 : decode cX5_were 139 = .ok (.iconst 1, 1) := k_4 zcX5_were rfl rfl
theorem dX5_were_140 : decode cX5_were 140 = .ok (.iadd, 1) := k_96 zcX5_were rfl rfl
theorem dX5_were_141 : decode cX5_were 141 = .ok (.iload 8, 2) := k_21 zcX5_were rfl rfl rfl
theorem dX5_were_143 : decode cX5_were 143 = .ok (.isub, 1) := k_100 zcX5_were rfl rfl
theorem dX5_were_144 : decode cX5_were 144 = .ok (.iload 10, 2) := k_21 zcX5_were rfl rfl rfl
theorem dX5_were_146 : decode cX5_were 146 = .ok (.iload 7, 2) := k_21 zcX5_were rfl rfl rfl
theorem dX5_were_148 : decode cX5_were 148 = .ok (.invokevirtual 201, 3) := k_182 zcX5_were rfl rfl rfl
theorem dX5_were_151 : decode cX5_were 151 = .ok (.ifCond .ne 29, 3) := k_154 zcX5_were rfl rfl rfl
theorem dX5_were_154 : decode cX5_were 154 = .ok (.aload_n 0, 1) := k_42 zcX5_were rfl rfl
theorem dX5_were_155 : decode cX5_were 155 = .ok (.getfield 40, 3) := k_180 zcX5_were rfl rfl rfl
theorem dX5_were_158 : decode cX5_were 158 = .ok (.iload 8, 2) := k_21 zcX5_were rfl rfl rfl
theorem dX5_were_160 : decode cX5_were 160 = .ok (.iload 6, 2) := k_21 zcX5_were rfl rfl rfl
theorem dX5_were_162 : decode cX5_were 162 = .ok (.if_icmp .ne 7, 3) := k_160 zcX5_were rfl rfl rfl
theorem dX5_were_165 : decode cX5_were 165 = .ok (.iload_n 3, 1) := k_29 zcX5_were rfl rfl
theorem dX5_were_166 : decode cX5_were 166 = .ok (.goto 11, 3) := k_167 zcX5_were rfl rfl rfl
theorem dX5_were_169 : decode cX5_were 169 = .ok (.aload 5, 2) := k_25 zcX5_were rfl rfl rfl
theorem dX5_were_171 : decode cX5_were 171 = .ok (.getfield 176, 3) := k_180 zcX5_were rfl rfl rfl
theorem dX5_were_174 : decode cX5_were 174 = .ok (.iload 9, 2) := k_21 zcX5_were rfl rfl rfl
theorem dX5_were_176 : decode cX5_were 176 = .ok (.iaload, 1) := k_46 zcX5_were rfl rfl
theorem dX5_were_177 : decode cX5_were 177 = .ok (.invokevirtual 253, 3) := k_182 zcX5_were rfl rfl rfl
theorem dX5_were_180 : decode cX5_were 180 = .ok (.iinc 8 1, 3) := k_132 zcX5_were rfl rfl rfl rfl
theorem dX5_were_183 : decode cX5_were 183 = .ok (.goto (-100), 3) := k_167 zcX5_were rfl rfl rfl
theorem dX5_were_186 : decode cX5_were 186 = .ok (.aload_n 0, 1) := k_42 zcX5_were rfl rfl
theorem dX5_were_187 : decode cX5_were 187 = .ok (.getfield 40, 3) := k_180 zcX5_were rfl rfl rfl
theorem dX5_were_190 : decode cX5_were 190 = .ok (.iload 4, 2) := k_21 zcX5_were rfl rfl rfl
theorem dX5_were_192 : decode cX5_were 192 = .ok (.invokevirtual 273, 3) := k_182 zcX5_were rfl rfl rfl
theorem dX5_were_195 : decode cX5_were 195 = .ok (.ireturn, 1) := k_172 zcX5_were rfl rfl
theorem dX5_parted_0 : decode cX5_parted 0 = .ok (.aload_n 0, 1) := k_42 zcX5_parted rfl rfl
theorem dX5_parted_1 : decode cX5_parted 1 = .ok (.iload_n 1, 1) := k_27 zcX5_parted rfl rfl
theorem dX5_parted_2 : decode cX5_parted 2 = .ok (.iload_n 3, 1) := k_29 zcX5_parted rfl rfl
theorem dX5_parted_3 : decode cX5_parted 3 = .ok (.invokevirtual 248, 3) := k_182 zcX5_parted rfl rfl rfl
theorem dX5_parted_6 : decode cX5_parted 6 = .ok (.astore 5, 2) := k_58 zcX5_parted rfl rfl rfl
theorem dX5_parted_8 : decode cX5_parted 8 = .ok (.aload 5, 2) := k_25 zcX5_parted rfl rfl rfl
theorem dX5_parted_10 : decode cX5_parted 10 = .ok (.ifnull 31, 3) := k_198 zcX5_parted rfl rfl rfl
theorem dX5_parted_13 : decode cX5_parted 13 = .ok (.iload_n 2, 1) := k_28 zcX5_parted rfl rfl
theorem dX5_parted_14 : decode cX5_parted 14 = .ok (.iconst 1, 1) := k_4 zcX5_parted rfl rfl
theorem dX5_parted_15 : decode cX5_parted 15 = .ok (.iconst 4, 1) := k_7 zcX5_parted rfl rfl
theorem dX5_parted_16 : decode cX5_parted 16 = .ok (.invokestatic 59, 3) := k_184 zcX5_parted rfl rfl rfl
theorem dX5_parted_19 : decode cX5_parted 19 = .ok (.ifCond .eq 22, 3) := k_153 zcX5_parted rfl rfl rfl
theorem dX5_parted_22 : decode cX5_parted 22 = .ok (.iload 4, 2) := k_21 zcX5_parted rfl rfl rfl
theorem dX5_parted_24 : decode cX5_parted 24 = .ok (.iconst 0, 1) := k_3 zcX5_parted rfl rfl
theorem dX5_parted_25 : decode cX5_parted 25 = .ok (.iload_n 2, 1) := k_28 zcX5_parted rfl rfl
theorem dX5_parted_26 : decode cX5_parted 26 = .ok (.invokestatic 59, 3) := k_184 zcX5_parted rfl rfl rfl
theorem dX5_parted_29 : decode cX5_parted 29 = .ok (.ifCond .eq 12, 3) := k_153 zcX5_parted rfl rfl rfl
theorem dX5_parted_32 : decode cX5_parted 32 = .ok (.aload 5, 2) := k_25 zcX5_parted rfl rfl rfl
theorem dX5_parted_34 : decode cX5_parted 34 = .ok (.getfield 154, 3) := k_180 zcX5_parted rfl rfl rfl
theorem dX5_parted_37 : decode cX5_parted 37 = .ok (.iload_n 2, 1) := k_28 zcX5_parted rfl rfl
theorem dX5_parted_38 : decode cX5_parted 38 = .ok (.if_icmp .ge 6, 3) := k_162 zcX5_parted rfl rfl rfl
theorem dX5_parted_41 : decode cX5_parted 41 = .ok (.ldc 175, 2) := k_18 zcX5_parted rfl rfl rfl
theorem dX5_parted_43 : decode cX5_parted 43 = .ok (.ireturn, 1) := k_172 zcX5_parted rfl rfl
theorem dX5_parted_44 : decode cX5_parted 44 = .ok (.aload 5, 2) := k_25 zcX5_parted rfl rfl rfl
theorem dX5_parted_46 : decode cX5_parted 46 = .ok (.getfield 154, 3) := k_180 zcX5_parted rfl rfl rfl
theorem dX5_parted_49 : decode cX5_parted 49 = .ok (.iconst 1, 1) := k_4 zcX5_parted rfl rfl
theorem dX5_parted_50 : decode cX5_parted 50 = .ok (.isub, 1) := k_100 zcX5_parted rfl rfl
theorem dX5_parted_51 : decode cX5_parted 51 = .ok (.istore 6, 2) := k_54 zcX5_parted rfl rfl rfl
theorem dX5_parted_53 : decode cX5_parted 53 = .ok (.iload 6, 2) := k_21 zcX5_parted rfl rfl rfl
theorem dX5_parted_55 : decode cX5_parted 55 = .ok (.ifCond .lt 19, 3) := k_155 zcX5_parted rfl rfl rfl
theorem dX5_parted_58 : decode cX5_parted 58 = .ok (.aload_n 0, 1) := k_42 zcX5_parted rfl rfl
theorem dX5_parted_59 : decode cX5_parted 59 = .ok (.aload 5, 2) := k_25 zcX5_parted rfl rfl rfl
theorem dX5_parted_61 : decode cX5_parted 61 = .ok (.iload 6, 2) := k_21 zcX5_parted rfl rfl rfl
theorem dX5_parted_63 : decode cX5_parted 63 = .ok (.iload_n 2, 1) := k_28 zcX5_parted rfl rfl
theorem dX5_parted_64 : decode cX5_parted 64 = .ok (.iload_n 3, 1) := k_29 zcX5_parted rfl rfl
theorem dX5_parted_65 : decode cX5_parted 65 = .ok (.invokevirtual 345, 3) := k_182 zcX5_parted rfl rfl rfl
theorem dX5_parted_68 : decode cX5_parted 68 = .ok (.iinc 6 (-1), 3) := k_132 zcX5_parted rfl rfl rfl rfl
theorem dX5_parted_71 : decode cX5_parted 71 = .ok (.goto (-18), 3) := k_167 zcX5_parted rfl rfl rfl
theorem dX5_parted_74 : decode cX5_parted 74 = .ok (.aload_n 0, 1) := k_42 zcX5_parted rfl rfl
theorem dX5_parted_75 : decode cX5_parted 75 = .ok (.getfield 53, 3) := k_180 zcX5_parted rfl rfl rfl
theorem dX5_parted_78 : decode cX5_parted 78 = .ok (.iload_n 2, 1) := k_28 zcX5_parted rfl rfl
theorem dX5_parted_79 : decode cX5_parted 79 = .ok (.aaload, 1) := k_50 zcX5_parted rfl rfl
theorem dX5_parted_80 : decode cX5_parted 80 = .ok (.iconst 0, 1) := k_3 zcX5_parted rfl rfl
theorem dX5_parted_81 : decode cX5_parted 81 = .ok (.iaload, 1) := k_46 zcX5_parted rfl rfl
theorem dX5_parted_82 : decode cX5_parted 82 = .ok (.istore 6, 2) := k_54 zcX5_parted rfl rfl rfl
theorem dX5_parted_84 : decode cX5_parted 84 = .ok (.iload 6, 2) := k_21 zcX5_parted rfl rfl rfl
theorem dX5_parted_86 : decode cX5_parted 86 = .ok (.ldc 175, 2) := k_18 zcX5_parted rfl rfl rfl
theorem dX5_parted_88 : decode cX5_parted 88 = .ok (.if_icmp .eq 8, 3) := k_159 zcX5_parted rfl rfl rfl
theorem dX5_parted_91 : decode cX5_parted 91 = .ok (.iload 4, 2) := k_21 zcX5_parted rfl rfl rfl
theorem dX5_parted_93 : decode cX5_parted 93 = .ok (.ifCond .ne 6, 3) := k_154 zcX5_parted rfl rfl rfl
theorem dX5_parted_96 : decode cX5_parted 96 = .ok (.iload 6, 2) := k_21 zcX5_parted rfl rfl rfl
theorem dX5_parted_98 : decode cX5_parted 98 = .ok (.ireturn, 1) := k_172 zcX5_parted rfl rfl
theorem dX5_parted_99 : decode cX5_parted 99 = .ok (.iconst 0, 1) := k_3 zcX5_parted rfl rfl
theorem dX5_parted_100 : decode cX5_parted 100 = .ok (.istore 7, 2) := k_54 zcX5_parted rfl rfl rfl
theorem dX5_parted_102 : decode cX5_parted 102 = .ok (.iconst 1, 1) := k_4 zcX5_parted rfl rfl
theorem dX5_parted_103 : decode cX5_parted 103 = .ok (.istore 8, 2) := k_54 zcX5_parted rfl rfl rfl
theorem dX5_parted_105 : decode cX5_parted 105 = .ok (.iload 8, 2) := k_21 zcX5_parted rfl rfl rfl
theorem dX5_parted_107 : decode cX5_parted 107 = .ok (.iload 4, 2) := k_21 zcX5_parted rfl rfl rfl
theorem dX5_parted_109 : decode cX5_parted 109 = .ok (.if_icmp .ge 25, 3) := k_162 zcX5_parted rfl rfl rfl
theorem dX5_parted_112 : decode cX5_parted 112 = .ok (.aload_n 0, 1) := k_42 zcX5_parted rfl rfl
theorem dX5_parted_113 : decode cX5_parted 113 = .ok (.getfield 56, 3) := k_180 zcX5_parted rfl rfl rfl
theorem dX5_parted_116 : decode cX5_parted 116 = .ok (.iload_n 2, 1) := k_28 zcX5_parted rfl rfl
theorem dX5_parted_117 : decode cX5_parted 117 = .ok (.iload 8, 2) := k_21 zcX5_parted rfl rfl rfl
theorem dX5_parted_119 : decode cX5_parted 119 = .ok (.isub, 1) := k_100 zcX5_parted rfl rfl
theorem dX5_parted_120 : decode cX5_parted 120 = .ok (.iconst 1, 1) := k_4 zcX5_parted rfl rfl
theorem dX5_parted_121 : decode cX5_parted 121 = .ok (.iadd, 1) := k_96 zcX5_parted rfl rfl
theorem dX5_parted_122 : decode cX5_parted 122 = .ok (.aaload, 1) := k_50 zcX5_parted rfl rfl
theorem dX5_parted_123 : decode cX5_parted 123 = .ok (.iload 7, 2) := k_21 zcX5_parted rfl rfl rfl
theorem dX5_parted_125 : decode cX5_parted 125 = .ok (.iaload, 1) := k_46 zcX5_parted rfl rfl
theorem dX5_parted_126 : decode cX5_parted 126 = .ok (.istore 7, 2) := k_54 zcX5_parted rfl rfl rfl
theorem dX5_parted_128 : decode cX5_parted 128 = .ok (.iinc 8 1, 3) := k_132 zcX5_parted rfl rfl rfl rfl
theorem dX5_parted_131 : decode cX5_parted 131 = .ok (.goto (-26), 3) := k_167 zcX5_parted rfl rfl rfl
theorem dX5_parted_134 : decode cX5_parted 134 = .ok (.iload 7, 2) := k_21 zcX5_parted rfl rfl rfl
theorem dX5_parted_136 : decode cX5_parted 136 = .ok (.ireturn, 1) := k_172 zcX5_parted rfl rfl
theorem dX5_partFrom_0 : decode cX5_partFrom 0 = .ok (.iconst 1, 1) := k_4 zcX5_partFrom rfl rfl
theorem dX5_partFrom_1 : decode cX5_partFrom 1 = .ok (.istore 5, 2) := k_54 zcX5_partFrom rfl rfl rfl
theorem dX5_partFrom_3 : decode cX5_partFrom 3 = .ok (.iload 5, 2) := k_21 zcX5_partFrom rfl rfl rfl
theorem dX5_partFrom_5 : decode cX5_partFrom 5 = .ok (.iload_n 3, 1) := k_29 zcX5_partFrom rfl rfl
theorem dX5_partFrom_6 : decode cX5_partFrom 6 = .ok (.if_icmp .gt 20, 3) := k_163 zcX5_partFrom rfl rfl rfl
theorem dX5_partFrom_9 : decode cX5_partFrom 9 = .ok (.aload_n 0, 1) := k_42 zcX5_partFrom rfl rfl
theorem dX5_partFrom_10 : decode cX5_partFrom 10 = .ok (.getfield 53, 3) := k_180 zcX5_partFrom rfl rfl rfl
theorem dX5_partFrom_13 : decode cX5_partFrom 13 = .ok (.iload 5, 2) := k_21 zcX5_partFrom rfl rfl rfl
theorem dX5_partFrom_15 : decode cX5_partFrom 15 = .ok (.aaload, 1) := k_50 zcX5_partFrom rfl rfl
theorem dX5_partFrom_16 : decode cX5_partFrom 16 = .ok (.iload_n 2, 1) := k_28 zcX5_partFrom rfl rfl
theorem dX5_partFrom_17 : decode cX5_partFrom 17 = .ok (.ldc 175, 2) := k_18 zcX5_partFrom rfl rfl rfl
theorem dX5_partFrom_19 : decode cX5_partFrom 19 = .ok (.iastore, 1) := k_79 zcX5_partFrom rfl rfl
theorem dX5_partFrom_20 : decode cX5_partFrom 20 = .ok (.iinc 5 1, 3) := k_132 zcX5_partFrom rfl rfl rfl rfl
theorem dX5_partFrom_23 : decode cX5_partFrom 23 = .ok (.goto (-20), 3) := k_167 zcX5_partFrom rfl rfl rfl
theorem dX5_partFrom_26 : decode cX5_partFrom 26 = .ok (.aload_n 0, 1) := k_42 zcX5_partFrom rfl rfl
theorem dX5_partFrom_27 : decode cX5_partFrom 27 = .ok (.getfield 40, 3) := k_180 zcX5_partFrom rfl rfl rfl
theorem dX5_partFrom_30 : decode cX5_partFrom 30 = .ok (.aload_n 1, 1) := k_43 zcX5_partFrom rfl rfl
theorem dX5_partFrom_31 : decode cX5_partFrom 31 = .ok (.getfield 98, 3) := k_180 zcX5_partFrom rfl rfl rfl
theorem dX5_partFrom_34 : decode cX5_partFrom 34 = .ok (.invokevirtual 251, 3) := k_182 zcX5_partFrom rfl rfl rfl
theorem dX5_partFrom_37 : decode cX5_partFrom 37 = .ok (.iload_n 2, 1) := k_28 zcX5_partFrom rfl rfl
theorem dX5_partFrom_38 : decode cX5_partFrom 38 = .ok (.iconst 1, 1) := k_4 zcX5_partFrom rfl rfl
theorem dX5_partFrom_39 : decode cX5_partFrom 39 = .ok (.iadd, 1) := k_96 zcX5_partFrom rfl rfl
theorem dX5_partFrom_40 : decode cX5_partFrom 40 = .ok (.istore 5, 2) := k_54 zcX5_partFrom rfl rfl rfl
theorem dX5_partFrom_42 : decode cX5_partFrom 42 = .ok (.iload 5, 2) := k_21 zcX5_partFrom rfl rfl rfl
theorem dX5_partFrom_44 : decode cX5_partFrom 44 = .ok (.aload_n 1, 1) := k_43 zcX5_partFrom rfl rfl
theorem dX5_partFrom_45 : decode cX5_partFrom 45 = .ok (.getfield 154, 3) := k_180 zcX5_partFrom rfl rfl rfl
theorem dX5_partFrom_48 : decode cX5_partFrom 48 = .ok (.if_icmp .ge 121, 3) := k_162 zcX5_partFrom rfl rfl rfl
theorem dX5_partFrom_51 : decode cX5_partFrom 51 = .ok (.aload_n 0, 1) := k_42 zcX5_partFrom rfl rfl
theorem dX5_partFrom_52 : decode cX5_partFrom 52 = .ok (.getfield 40, 3) := k_180 zcX5_partFrom rfl rfl rfl
theorem dX5_partFrom_55 : decode cX5_partFrom 55 = .ok (.aload_n 1, 1) := k_43 zcX5_partFrom rfl rfl
theorem dX5_partFrom_56 : decode cX5_partFrom 56 = .ok (.getfield 176, 3) := k_180 zcX5_partFrom rfl rfl rfl
theorem dX5_partFrom_59 : decode cX5_partFrom 59 = .ok (.iload 5, 2) := k_21 zcX5_partFrom rfl rfl rfl
theorem dX5_partFrom_61 : decode cX5_partFrom 61 = .ok (.iconst 1, 1) := k_4 zcX5_partFrom rfl rfl
theorem dX5_partFrom_62 : decode cX5_partFrom 62 = .ok (.isub, 1) := k_100 zcX5_partFrom rfl rfl
theorem dX5_partFrom_63 : decode cX5_partFrom 63 = .ok (.iaload, 1) := k_46 zcX5_partFrom rfl rfl
theorem dX5_partFrom_64 : decode cX5_partFrom 64 = .ok (.invokevirtual 253, 3) := k_182 zcX5_partFrom rfl rfl rfl
theorem dX5_partFrom_67 : decode cX5_partFrom 67 = .ok (.aload_n 0, 1) := k_42 zcX5_partFrom rfl rfl
theorem dX5_partFrom_68 : decode cX5_partFrom 68 = .ok (.getfield 40, 3) := k_180 zcX5_partFrom rfl rfl rfl
theorem dX5_partFrom_71 : decode cX5_partFrom 71 = .ok (.iload 4, 2) := k_21 zcX5_partFrom rfl rfl rfl
theorem dX5_partFrom_73 : decode cX5_partFrom 73 = .ok (.invokevirtual 273, 3) := k_182 zcX5_partFrom rfl rfl rfl
theorem dX5_partFrom_76 : decode cX5_partFrom 76 = .ok (.istore 6, 2) := k_54 zcX5_partFrom rfl rfl rfl
theorem dX5_partFrom_78 : decode cX5_partFrom 78 = .ok (.iconst 2, 1) := k_5 zcX5_partFrom rfl rfl
theorem dX5_partFrom_79 : decode cX5_partFrom 79 = .ok (.istore 7, 2) := k_54 zcX5_partFrom rfl rfl rfl
theorem dX5_partFrom_81 : decode cX5_partFrom 81 = .ok (.iload 7, 2) := k_21 zcX5_partFrom rfl rfl rfl
theorem dX5_partFrom_83 : decode cX5_partFrom 83 = .ok (.iload_n 3, 1) := k_29 zcX5_partFrom rfl rfl
theorem dX5_partFrom_84 : decode cX5_partFrom 84 = .ok (.if_icmp .gt 79, 3) := k_163 zcX5_partFrom rfl rfl rfl
theorem dX5_partFrom_87 : decode cX5_partFrom 87 = .ok (.iload 6, 2) := k_21 zcX5_partFrom rfl rfl rfl
theorem dX5_partFrom_89 : decode cX5_partFrom 89 = .ok (.ldc 175, 2) := k_18 zcX5_partFrom rfl rfl rfl
theorem dX5_partFrom_91 : decode cX5_partFrom 91 = .ok (.if_icmp .eq 72, 3) := k_159 zcX5_partFrom rfl rfl rfl
theorem dX5_partFrom_94 : decode cX5_partFrom 94 = .ok (.aload_n 0, 1) := k_42 zcX5_partFrom rfl rfl
theorem dX5_partFrom_95 : decode cX5_partFrom 95 = .ok (.getfield 53, 3) := k_180 zcX5_partFrom rfl rfl rfl
theorem dX5_partFrom_98 : decode cX5_partFrom 98 = .ok (.iload 7, 2) := k_21 zcX5_partFrom rfl rfl rfl
theorem dX5_partFrom_100 : decode cX5_partFrom 100 = .ok (.iconst 1, 1) := k_4 zcX5_partFrom rfl rfl
theorem dX5_partFrom_101 : decode cX5_partFrom 101 = .ok (.isub, 1) := k_100 zcX5_partFrom rfl rfl
theorem dX5_partFrom_102 : decode cX5_partFrom 102 = .ok (.aaload, 1) := k_50 zcX5_partFrom rfl rfl
theorem dX5_partFrom_103 : decode cX5_partFrom 103 = .ok (.iload 5, 2) := k_21 zcX5_partFrom rfl rfl rfl
theorem dX5_partFrom_105 : decode cX5_partFrom 105 = .ok (.iaload, 1) := k_46 zcX5_partFrom rfl rfl
theorem dX5_partFrom_106 : decode cX5_partFrom 106 = .ok (.istore 8, 2) := k_54 zcX5_partFrom rfl rfl rfl
theorem dX5_partFrom_108 : decode cX5_partFrom 108 = .ok (.iload 8, 2) := k_21 zcX5_partFrom rfl rfl rfl
theorem dX5_partFrom_110 : decode cX5_partFrom 110 = .ok (.ldc 175, 2) := k_18 zcX5_partFrom rfl rfl rfl
theorem dX5_partFrom_112 : decode cX5_partFrom 112 = .ok (.if_icmp .eq 45, 3) := k_159 zcX5_partFrom rfl rfl rfl
theorem dX5_partFrom_115 : decode cX5_partFrom 115 = .ok (.iload 6, 2) := k_21 zcX5_partFrom rfl rfl rfl
theorem dX5_partFrom_117 : decode cX5_partFrom 117 = .ok (.iload 8, 2) := k_21 zcX5_partFrom rfl rfl rfl
theorem dX5_partFrom_119 : decode cX5_partFrom 119 = .ok (.iadd, 1) := k_96 zcX5_partFrom rfl rfl
theorem dX5_partFrom_120 : decode cX5_partFrom 120 = .ok (.aload_n 0, 1) := k_42 zcX5_partFrom rfl rfl
theorem dX5_partFrom_121 : decode cX5_partFrom 121 = .ok (.getfield 53, 3) := k_180 zcX5_partFrom rfl rfl rfl
theorem dX5_partFrom_124 : decode cX5_partFrom 124 = .ok (.iload 7, 2) := k_21 zcX5_partFrom rfl rfl rfl
theorem dX5_partFrom_126 : decode cX5_partFrom 126 = .ok (.aaload, 1) := k_50 zcX5_partFrom rfl rfl
theorem dX5_partFrom_127 : decode cX5_partFrom 127 = .ok (.iload_n 2, 1) := k_28 zcX5_partFrom rfl rfl
theorem dX5_partFrom_128 : decode cX5_partFrom 128 = .ok (.iaload, 1) := k_46 zcX5_partFrom rfl rfl
theorem dX5_partFrom_129 : decode cX5_partFrom 129 = .ok (.if_icmp .le 28, 3) := k_164 zcX5_partFrom rfl rfl rfl
theorem dX5_partFrom_132 : decode cX5_partFrom 132 = .ok (.aload_n 0, 1) := k_42 zcX5_partFrom rfl rfl
theorem dX5_partFrom_133 : decode cX5_partFrom 133 = .ok (.getfield 53, 3) := k_180 zcX5_partFrom rfl rfl rfl
theorem dX5_partFrom_136 : decode cX5_partFrom 136 = .ok (.iload 7, 2) := k_21 zcX5_partFrom rfl rfl rfl
theorem dX5_partFrom_138 : decode cX5_partFrom 138 = .ok (.aaload, 1) := k_50 zcX5_partFrom rfl rfl
theorem dX5_partFrom_139 : decode cX5_partFrom 139 = .ok (.iload_n 2, 1) := k_28 zcX5_partFrom rfl rfl
theorem dX5_partFrom_140 : decode cX5_partFrom 140 = .ok (.iload 6, 2) := k_21 zcX5_partFrom rfl rfl rfl
theorem dX5_partFrom_142 : decode cX5_partFrom 142 = .ok (.iload 8, 2) := k_21 zcX5_partFrom rfl rfl rfl
theorem dX5_partFrom_144 : decode cX5_partFrom 144 = .ok (.iadd, 1) := k_96 zcX5_partFrom rfl rfl
theorem dX5_partFrom_145 : decode cX5_partFrom 145 = .ok (.iastore, 1) := k_79 zcX5_partFrom rfl rfl
theorem dX5_partFrom_146 : decode cX5_partFrom 146 = .ok (.aload_n 0, 1) := k_42 zcX5_partFrom rfl rfl
theorem dX5_partFrom_147 : decode cX5_partFrom 147 = .ok (.getfield 56, 3) := k_180 zcX5_partFrom rfl rfl rfl
theorem dX5_partFrom_150 : decode cX5_partFrom 150 = .ok (.iload 7, 2) := k_21 zcX5_partFrom rfl rfl rfl
theorem dX5_partFrom_152 : decode cX5_partFrom 152 = .ok (.aaload, 1) := k_50 zcX5_partFrom rfl rfl
theorem dX5_partFrom_153 : decode cX5_partFrom 153 = .ok (.iload_n 2, 1) := k_28 zcX5_partFrom rfl rfl
theorem dX5_partFrom_154 : decode cX5_partFrom 154 = .ok (.iload 5, 2) := k_21 zcX5_partFrom rfl rfl rfl
theorem dX5_partFrom_156 : decode cX5_partFrom 156 = .ok (.iastore, 1) := k_79 zcX5_partFrom rfl rfl
theorem dX5_partFrom_157 : decode cX5_partFrom 157 = .ok (.iinc 7 1, 3) := k_132 zcX5_partFrom rfl rfl rfl rfl
theorem dX5_partFrom_160 : decode cX5_partFrom 160 = .ok (.goto (-79), 3) := k_167 zcX5_partFrom rfl rfl rfl
theorem dX5_partFrom_163 : decode cX5_partFrom 163 = .ok (.iinc 5 1, 3) := k_132 zcX5_partFrom rfl rfl rfl rfl
theorem dX5_partFrom_166 : decode cX5_partFrom 166 = .ok (.goto (-124), 3) := k_167 zcX5_partFrom rfl rfl rfl
theorem dX5_partFrom_169 : decode cX5_partFrom 169 = .ok (.aload_n 0, 1) := k_42 zcX5_partFrom rfl rfl
theorem dX5_partFrom_170 : decode cX5_partFrom 170 = .ok (.getfield 40, 3) := k_180 zcX5_partFrom rfl rfl rfl
theorem dX5_partFrom_173 : decode cX5_partFrom 173 = .ok (.aload_n 1, 1) := k_43 zcX5_partFrom rfl rfl
theorem dX5_partFrom_174 : decode cX5_partFrom 174 = .ok (.getfield 176, 3) := k_180 zcX5_partFrom rfl rfl rfl
theorem dX5_partFrom_177 : decode cX5_partFrom 177 = .ok (.aload_n 1, 1) := k_43 zcX5_partFrom rfl rfl
theorem dX5_partFrom_178 : decode cX5_partFrom 178 = .ok (.getfield 154, 3) := k_180 zcX5_partFrom rfl rfl rfl
theorem dX5_partFrom_181 : decode cX5_partFrom 181 = .ok (.iconst 1, 1) := k_4 zcX5_partFrom rfl rfl
theorem dX5_partFrom_182 : decode cX5_partFrom 182 = .ok (.isub, 1) := k_100 zcX5_partFrom rfl rfl
theorem dX5_partFrom_183 : decode cX5_partFrom 183 = .ok (.iaload, 1) := k_46 zcX5_partFrom rfl rfl
theorem dX5_partFrom_184 : decode cX5_partFrom 184 = .ok (.invokevirtual 253, 3) := k_182 zcX5_partFrom rfl rfl rfl
theorem dX5_partFrom_187 : decode cX5_partFrom 187 = .ok (.aload_n 0, 1) := k_42 zcX5_partFrom rfl rfl
theorem dX5_partFrom_188 : decode cX5_partFrom 188 = .ok (.getfield 53, 3) := k_180 zcX5_partFrom rfl rfl rfl
theorem dX5_partFrom_191 : decode cX5_partFrom 191 = .ok (.iconst 1, 1) := k_4 zcX5_partFrom rfl rfl
theorem dX5_partFrom_192 : decode cX5_partFrom 192 = .ok (.aaload, 1) := k_50 zcX5_partFrom rfl rfl
theorem dX5_partFrom_193 : decode cX5_partFrom 193 = .ok (.iload_n 2, 1) := k_28 zcX5_partFrom rfl rfl
theorem dX5_partFrom_194 : decode cX5_partFrom 194 = .ok (.aload_n 0, 1) := k_42 zcX5_partFrom rfl rfl
theorem dX5_partFrom_195 : decode cX5_partFrom 195 = .ok (.getfield 40, 3) := k_180 zcX5_partFrom rfl rfl rfl
theorem dX5_partFrom_198 : decode cX5_partFrom 198 = .ok (.iload 4, 2) := k_21 zcX5_partFrom rfl rfl rfl
theorem dX5_partFrom_200 : decode cX5_partFrom 200 = .ok (.invokevirtual 273, 3) := k_182 zcX5_partFrom rfl rfl rfl
theorem dX5_partFrom_203 : decode cX5_partFrom 203 = .ok (.iastore, 1) := k_79 zcX5_partFrom rfl rfl
theorem dX5_partFrom_204 : decode cX5_partFrom 204 = .ok (.return_, 1) := k_177 zcX5_partFrom rfl rfl
theorem dX5_keep_0 : decode cX5_keep 0 = .ok (.aload_n 0, 1) := k_42 zcX5_keep rfl rfl
theorem dX5_keep_1 : decode cX5_keep 1 = .ok (.iload_n 1, 1) := k_27 zcX5_keep rfl rfl
theorem dX5_keep_2 : decode cX5_keep 2 = .ok (.invokevirtual 123, 3) := k_182 zcX5_keep rfl rfl rfl
theorem dX5_keep_5 : decode cX5_keep 5 = .ok (.astore_n 3, 1) := k_78 zcX5_keep rfl rfl
theorem dX5_keep_6 : decode cX5_keep 6 = .ok (.aload_n 3, 1) := k_45 zcX5_keep rfl rfl
theorem dX5_keep_7 : decode cX5_keep 7 = .ok (.ifnull 12, 3) := k_198 zcX5_keep rfl rfl rfl
theorem dX5_keep_10 : decode cX5_keep 10 = .ok (.iload_n 2, 1) := k_28 zcX5_keep rfl rfl
theorem dX5_keep_11 : decode cX5_keep 11 = .ok (.iconst 0, 1) := k_3 zcX5_keep rfl rfl
theorem dX5_keep_12 : decode cX5_keep 12 = .ok (.iconst 2, 1) := k_5 zcX5_keep rfl rfl
theorem dX5_keep_13 : decode cX5_keep 13 = .ok (.invokestatic 59, 3) := k_184 zcX5_keep rfl rfl rfl
theorem dX5_keep_16 : decode cX5_keep 16 = .ok (.ifCond .ne 5, 3) := k_154 zcX5_keep rfl rfl rfl
theorem dX5_keep_19 : decode cX5_keep 19 = .ok (.iconst (-1), 1) := k_2 zcX5_keep rfl rfl
theorem dX5_keep_20 : decode cX5_keep 20 = .ok (.ireturn, 1) := k_172 zcX5_keep rfl rfl
theorem dX5_keep_21 : decode cX5_keep 21 = .ok (.aload_n 0, 1) := k_42 zcX5_keep rfl rfl
theorem dX5_keep_22 : decode cX5_keep 22 = .ok (.getfield 27, 3) := k_180 zcX5_keep rfl rfl rfl
theorem dX5_keep_25 : decode cX5_keep 25 = .ok (.iload_n 2, 1) := k_28 zcX5_keep rfl rfl
theorem dX5_keep_26 : decode cX5_keep 26 = .ok (.aaload, 1) := k_50 zcX5_keep rfl rfl
theorem dX5_keep_27 : decode cX5_keep 27 = .ok (.aload_n 3, 1) := k_45 zcX5_keep rfl rfl
theorem dX5_keep_28 : decode cX5_keep 28 = .ok (.invokevirtual 349, 3) := k_182 zcX5_keep rfl rfl rfl
theorem dX5_keep_31 : decode cX5_keep 31 = .ok (.aload_n 3, 1) := k_45 zcX5_keep rfl rfl
theorem dX5_keep_32 : decode cX5_keep 32 = .ok (.getfield 154, 3) := k_180 zcX5_keep rfl rfl rfl
theorem dX5_keep_35 : decode cX5_keep 35 = .ok (.ireturn, 1) := k_172 zcX5_keep rfl rfl
theorem dX5_back_0 : decode cX5_back 0 = .ok (.iload_n 1, 1) := k_27 zcX5_back rfl rfl
theorem dX5_back_1 : decode cX5_back 1 = .ok (.iconst 0, 1) := k_3 zcX5_back rfl rfl
theorem dX5_back_2 : decode cX5_back 2 = .ok (.iconst 2, 1) := k_5 zcX5_back rfl rfl
theorem dX5_back_3 : decode cX5_back 3 = .ok (.invokestatic 59, 3) := k_184 zcX5_back rfl rfl rfl
theorem dX5_back_6 : decode cX5_back 6 = .ok (.ifCond .eq 15, 3) := k_153 zcX5_back rfl rfl rfl
theorem dX5_back_9 : decode cX5_back 9 = .ok (.aload_n 0, 1) := k_42 zcX5_back rfl rfl
theorem dX5_back_10 : decode cX5_back 10 = .ok (.getfield 27, 3) := k_180 zcX5_back rfl rfl rfl
theorem dX5_back_13 : decode cX5_back 13 = .ok (.iload_n 1, 1) := k_27 zcX5_back rfl rfl
theorem dX5_back_14 : decode cX5_back 14 = .ok (.aaload, 1) := k_50 zcX5_back rfl rfl
theorem dX5_back_15 : decode cX5_back 15 = .ok (.getfield 94, 3) := k_180 zcX5_back rfl rfl rfl
theorem dX5_back_18 : decode cX5_back 18 = .ok (.ifCond .ne 5, 3) := k_154 zcX5_back rfl rfl rfl
theorem dX5_back_21 : decode cX5_back 21 = .ok (.iconst (-1), 1) := k_2 zcX5_back rfl rfl
theorem dX5_back_22 : decode cX5_back 22 = .ok (.ireturn, 1) := k_172 zcX5_back rfl rfl
theorem dX5_back_23 : decode cX5_back 23 = .ok (.aload_n 0, 1) := k_42 zcX5_back rfl rfl
theorem dX5_back_24 : decode cX5_back 24 = .ok (.getfield 27, 3) := k_180 zcX5_back rfl rfl rfl
theorem dX5_back_27 : decode cX5_back 27 = .ok (.iload_n 1, 1) := k_27 zcX5_back rfl rfl
theorem dX5_back_28 : decode cX5_back 28 = .ok (.aaload, 1) := k_50 zcX5_back rfl rfl
theorem dX5_back_29 : decode cX5_back 29 = .ok (.astore_n 2, 1) := k_77 zcX5_back rfl rfl
theorem dX5_back_30 : decode cX5_back 30 = .ok (.aload_n 0, 1) := k_42 zcX5_back rfl rfl
theorem dX5_back_31 : decode cX5_back 31 = .ok (.getfield 13, 3) := k_180 zcX5_back rfl rfl rfl
theorem dX5_back_34 : decode cX5_back 34 = .ok (.aload_n 2, 1) := k_44 zcX5_back rfl rfl
theorem dX5_back_35 : decode cX5_back 35 = .ok (.getfield 212, 3) := k_180 zcX5_back rfl rfl rfl
theorem dX5_back_38 : decode cX5_back 38 = .ok (.aaload, 1) := k_50 zcX5_back rfl rfl
theorem dX5_back_39 : decode cX5_back 39 = .ok (.aload_n 2, 1) := k_44 zcX5_back rfl rfl
theorem dX5_back_40 : decode cX5_back 40 = .ok (.invokevirtual 349, 3) := k_182 zcX5_back rfl rfl rfl
theorem dX5_back_43 : decode cX5_back 43 = .ok (.aload_n 0, 1) := k_42 zcX5_back rfl rfl
theorem dX5_back_44 : decode cX5_back 44 = .ok (.aload_n 2, 1) := k_44 zcX5_back rfl rfl
theorem dX5_back_45 : decode cX5_back 45 = .ok (.getfield 212, 3) := k_180 zcX5_back rfl rfl rfl
theorem dX5_back_48 : decode cX5_back 48 = .ok (.invokevirtual 117, 3) := k_182 zcX5_back rfl rfl rfl
theorem dX5_back_51 : decode cX5_back 51 = .ok (.aload_n 2, 1) := k_44 zcX5_back rfl rfl
theorem dX5_back_52 : decode cX5_back 52 = .ok (.getfield 154, 3) := k_180 zcX5_back rfl rfl rfl
theorem dX5_back_55 : decode cX5_back 55 = .ok (.ireturn, 1) := k_172 zcX5_back rfl rfl
theorem dX5_about_0 : decode cX5_about 0 = .ok (.iload_n 1, 1) := k_27 zcX5_about rfl rfl
theorem dX5_about_1 : decode cX5_about 1 = .ok (.tableswitch 78 0 6 #[43, 48, 53, 58, 63, 68, 73], 43) := by decide +kernel
theorem dX5_about_44 : decode cX5_about 44 = .ok (.aload_n 0, 1) := k_42 zcX5_about rfl rfl
theorem dX5_about_45 : decode cX5_about 45 = .ok (.invokevirtual 120, 3) := k_182 zcX5_about rfl rfl rfl
theorem dX5_about_48 : decode cX5_about 48 = .ok (.ireturn, 1) := k_172 zcX5_about rfl rfl
theorem dX5_about_49 : decode cX5_about 49 = .ok (.aload_n 0, 1) := k_42 zcX5_about rfl rfl
theorem dX5_about_50 : decode cX5_about 50 = .ok (.invokevirtual 351, 3) := k_182 zcX5_about rfl rfl rfl
theorem dX5_about_53 : decode cX5_about 53 = .ok (.ireturn, 1) := k_172 zcX5_about rfl rfl
theorem dX5_about_54 : decode cX5_about 54 = .ok (.aload_n 0, 1) := k_42 zcX5_about rfl rfl
theorem dX5_about_55 : decode cX5_about 55 = .ok (.invokevirtual 354, 3) := k_182 zcX5_about rfl rfl rfl
theorem dX5_about_58 : decode cX5_about 58 = .ok (.ireturn, 1) := k_172 zcX5_about rfl rfl
theorem dX5_about_59 : decode cX5_about 59 = .ok (.aload_n 0, 1) := k_42 zcX5_about rfl rfl
theorem dX5_about_60 : decode cX5_about 60 = .ok (.invokevirtual 357, 3) := k_182 zcX5_about rfl rfl rfl
theorem dX5_about_63 : decode cX5_about 63 = .ok (.ireturn, 1) := k_172 zcX5_about rfl rfl
theorem dX5_about_64 : decode cX5_about 64 = .ok (.aload_n 0, 1) := k_42 zcX5_about rfl rfl
theorem dX5_about_65 : decode cX5_about 65 = .ok (.invokevirtual 360, 3) := k_182 zcX5_about rfl rfl rfl
theorem dX5_about_68 : decode cX5_about 68 = .ok (.ireturn, 1) := k_172 zcX5_about rfl rfl
theorem dX5_about_69 : decode cX5_about 69 = .ok (.aload_n 0, 1) := k_42 zcX5_about rfl rfl
theorem dX5_about_70 : decode cX5_about 70 = .ok (.invokevirtual 363, 3) := k_182 zcX5_about rfl rfl rfl
theorem dX5_about_73 : decode cX5_about 73 = .ok (.ireturn, 1) := k_172 zcX5_about rfl rfl
theorem dX5_about_74 : decode cX5_about 74 = .ok (.aload_n 0, 1) := k_42 zcX5_about rfl rfl
theorem dX5_about_75 : decode cX5_about 75 = .ok (.invokevirtual 366, 3) := k_182 zcX5_about rfl rfl rfl
theorem dX5_about_78 : decode cX5_about 78 = .ok (.ireturn, 1) := k_172 zcX5_about rfl rfl
theorem dX5_about_79 : decode cX5_about 79 = .ok (.iconst (-1), 1) := k_2 zcX5_about rfl rfl
theorem dX5_about_80 : decode cX5_about 80 = .ok (.ireturn, 1) := k_172 zcX5_about rfl rfl
theorem dX5_openLanes_0 : decode cX5_openLanes 0 = .ok (.iconst 0, 1) := k_3 zcX5_openLanes rfl rfl
theorem dX5_openLanes_1 : decode cX5_openLanes 1 = .ok (.istore_n 1, 1) := k_60 zcX5_openLanes rfl rfl
theorem dX5_openLanes_2 : decode cX5_openLanes 2 = .ok (.iconst 0, 1) := k_3 zcX5_openLanes rfl rfl
theorem dX5_openLanes_3 : decode cX5_openLanes 3 = .ok (.istore_n 2, 1) := k_61 zcX5_openLanes rfl rfl
theorem dX5_openLanes_4 : decode cX5_openLanes 4 = .ok (.iload_n 2, 1) := k_28 zcX5_openLanes rfl rfl
theorem dX5_openLanes_5 : decode cX5_openLanes 5 = .ok (.iconst 4, 1) := k_7 zcX5_openLanes rfl rfl
theorem dX5_openLanes_6 : decode cX5_openLanes 6 = .ok (.if_icmp .ge 29, 3) := k_162 zcX5_openLanes rfl rfl rfl
theorem dX5_openLanes_9 : decode cX5_openLanes 9 = .ok (.iload_n 1, 1) := k_27 zcX5_openLanes rfl rfl
theorem dX5_openLanes_10 : decode cX5_openLanes 10 = .ok (.aload_n 0, 1) := k_42 zcX5_openLanes rfl rfl
theorem dX5_openLanes_11 : decode cX5_openLanes 11 = .ok (.getfield 13, 3) := k_180 zcX5_openLanes rfl rfl rfl
theorem dX5_openLanes_14 : decode cX5_openLanes 14 = .ok (.iload_n 2, 1) := k_28 zcX5_openLanes rfl rfl
theorem dX5_openLanes_15 : decode cX5_openLanes 15 = .ok (.aaload, 1) := k_50 zcX5_openLanes rfl rfl
theorem dX5_openLanes_16 : decode cX5_openLanes 16 = .ok (.getfield 94, 3) := k_180 zcX5_openLanes rfl rfl rfl
theorem dX5_openLanes_19 : decode cX5_openLanes 19 = .ok (.ifCond .eq 7, 3) := k_153 zcX5_openLanes rfl rfl rfl
theorem dX5_openLanes_22 : decode cX5_openLanes 22 = .ok (.iconst 1, 1) := k_4 zcX5_openLanes rfl rfl
theorem dX5_openLanes_23 : decode cX5_openLanes 23 = .ok (.goto 4, 3) := k_167 zcX5_openLanes rfl rfl rfl
theorem dX5_openLanes_26 : decode cX5_openLanes 26 = .ok (.iconst 0, 1) := k_3 zcX5_openLanes rfl rfl
theorem dX5_openLanes_27 : decode cX5_openLanes 27 = .ok (.iadd, 1) := k_96 zcX5_openLanes rfl rfl
theorem dX5_openLanes_28 : decode cX5_openLanes 28 = .ok (.istore_n 1, 1) := k_60 zcX5_openLanes rfl rfl
theorem dX5_openLanes_29 : decode cX5_openLanes 29 = .ok (.iinc 2 1, 3) := k_132 zcX5_openLanes rfl rfl rfl rfl
theorem dX5_openLanes_32 : decode cX5_openLanes 32 = .ok (.goto (-28), 3) := k_167 zcX5_openLanes rfl rfl rfl
theorem dX5_openLanes_35 : decode cX5_openLanes 35 = .ok (.iload_n 1, 1) := k_27 zcX5_openLanes rfl rfl
theorem dX5_openLanes_36 : decode cX5_openLanes 36 = .ok (.ireturn, 1) := k_172 zcX5_openLanes rfl rfl
theorem dX5_heldInAll_0 : decode cX5_heldInAll 0 = .ok (.iconst 0, 1) := k_3 zcX5_heldInAll rfl rfl
theorem dX5_heldInAll_1 : decode cX5_heldInAll 1 = .ok (.istore_n 1, 1) := k_60 zcX5_heldInAll rfl rfl
theorem dX5_heldInAll_2 : decode cX5_heldInAll 2 = .ok (.iconst 0, 1) := k_3 zcX5_heldInAll rfl rfl
theorem dX5_heldInAll_3 : decode cX5_heldInAll 3 = .ok (.istore_n 2, 1) := k_61 zcX5_heldInAll rfl rfl
theorem dX5_heldInAll_4 : decode cX5_heldInAll 4 = .ok (.iload_n 2, 1) := k_28 zcX5_heldInAll rfl rfl
theorem dX5_heldInAll_5 : decode cX5_heldInAll 5 = .ok (.iconst 4, 1) := k_7 zcX5_heldInAll rfl rfl
theorem dX5_heldInAll_6 : decode cX5_heldInAll 6 = .ok (.if_icmp .ge 37, 3) := k_162 zcX5_heldInAll rfl rfl rfl
theorem dX5_heldInAll_9 : decode cX5_heldInAll 9 = .ok (.iload_n 1, 1) := k_27 zcX5_heldInAll rfl rfl
theorem dX5_heldInAll_10 : decode cX5_heldInAll 10 = .ok (.aload_n 0, 1) := k_42 zcX5_heldInAll rfl rfl
theorem dX5_heldInAll_11 : decode cX5_heldInAll 11 = .ok (.getfield 13, 3) := k_180 zcX5_heldInAll rfl rfl rfl
theorem dX5_heldInAll_14 : decode cX5_heldInAll 14 = .ok (.iload_n 2, 1) := k_28 zcX5_heldInAll rfl rfl
theorem dX5_heldInAll_15 : decode cX5_heldInAll 15 = .ok (.aaload, 1) := k_50 zcX5_heldInAll rfl rfl
theorem dX5_heldInAll_16 : decode cX5_heldInAll 16 = .ok (.getfield 94, 3) := k_180 zcX5_heldInAll rfl rfl rfl
theorem dX5_heldInAll_19 : decode cX5_heldInAll 19 = .ok (.ifCond .eq 15, 3) := k_153 zcX5_heldInAll rfl rfl rfl
theorem dX5_heldInAll_22 : decode cX5_heldInAll 22 = .ok (.aload_n 0, 1) := k_42 zcX5_heldInAll rfl rfl
theorem dX5_heldInAll_23 : decode cX5_heldInAll 23 = .ok (.getfield 13, 3) := k_180 zcX5_heldInAll rfl rfl rfl
theorem dX5_heldInAll_26 : decode cX5_heldInAll 26 = .ok (.iload_n 2, 1) := k_28 zcX5_heldInAll rfl rfl
theorem dX5_heldInAll_27 : decode cX5_heldInAll 27 = .ok (.aaload, 1) := k_50 zcX5_heldInAll rfl rfl
theorem dX5_heldInAll_28 : decode cX5_heldInAll 28 = .ok (.getfield 154, 3) := k_180 zcX5_heldInAll rfl rfl rfl
theorem dX5_heldInAll_31 : decode cX5_heldInAll 31 = .ok (.goto 4, 3) := k_167 zcX5_heldInAll rfl rfl rfl
theorem dX5_heldInAll_34 : decode cX5_heldInAll 34 = .ok (.iconst 0, 1) := k_3 zcX5_heldInAll rfl rfl
theorem dX5_heldInAll_35 : decode cX5_heldInAll 35 = .ok (.iadd, 1) := k_96 zcX5_heldInAll rfl rfl
theorem dX5_heldInAll_36 : decode cX5_heldInAll 36 = .ok (.istore_n 1, 1) := k_60 zcX5_heldInAll rfl rfl
theorem dX5_heldInAll_37 : decode cX5_heldInAll 37 = .ok (.iinc 2 1, 3) := k_132 zcX5_heldInAll rfl rfl rfl rfl
theorem dX5_heldInAll_40 : decode cX5_heldInAll 40 = .ok (.goto (-36), 3) := k_167 zcX5_heldInAll rfl rfl rfl
theorem dX5_heldInAll_43 : decode cX5_heldInAll 43 = .ok (.iload_n 1, 1) := k_27 zcX5_heldInAll rfl rfl
theorem dX5_heldInAll_44 : decode cX5_heldInAll 44 = .ok (.ireturn, 1) := k_172 zcX5_heldInAll rfl rfl
theorem dX5_spentInAll_0 : decode cX5_spentInAll 0 = .ok (.iconst 0, 1) := k_3 zcX5_spentInAll rfl rfl
theorem dX5_spentInAll_1 : decode cX5_spentInAll 1 = .ok (.istore_n 1, 1) := k_60 zcX5_spentInAll rfl rfl
theorem dX5_spentInAll_2 : decode cX5_spentInAll 2 = .ok (.iconst 0, 1) := k_3 zcX5_spentInAll rfl rfl
theorem dX5_spentInAll_3 : decode cX5_spentInAll 3 = .ok (.istore_n 2, 1) := k_61 zcX5_spentInAll rfl rfl
theorem dX5_spentInAll_4 : decode cX5_spentInAll 4 = .ok (.iload_n 2, 1) := k_28 zcX5_spentInAll rfl rfl
theorem dX5_spentInAll_5 : decode cX5_spentInAll 5 = .ok (.iconst 4, 1) := k_7 zcX5_spentInAll rfl rfl
theorem dX5_spentInAll_6 : decode cX5_spentInAll 6 = .ok (.if_icmp .ge 40, 3) := k_162 zcX5_spentInAll rfl rfl rfl
theorem dX5_spentInAll_9 : decode cX5_spentInAll 9 = .ok (.iload_n 1, 1) := k_27 zcX5_spentInAll rfl rfl
theorem dX5_spentInAll_10 : decode cX5_spentInAll 10 = .ok (.aload_n 0, 1) := k_42 zcX5_spentInAll rfl rfl
theorem dX5_spentInAll_11 : decode cX5_spentInAll 11 = .ok (.getfield 13, 3) := k_180 zcX5_spentInAll rfl rfl rfl
theorem dX5_spentInAll_14 : decode cX5_spentInAll 14 = .ok (.iload_n 2, 1) := k_28 zcX5_spentInAll rfl rfl
theorem dX5_spentInAll_15 : decode cX5_spentInAll 15 = .ok (.aaload, 1) := k_50 zcX5_spentInAll rfl rfl
theorem dX5_spentInAll_16 : decode cX5_spentInAll 16 = .ok (.getfield 94, 3) := k_180 zcX5_spentInAll rfl rfl rfl
theorem dX5_spentInAll_19 : decode cX5_spentInAll 19 = .ok (.ifCond .eq 18, 3) := k_153 zcX5_spentInAll rfl rfl rfl
theorem dX5_spentInAll_22 : decode cX5_spentInAll 22 = .ok (.aload_n 0, 1) := k_42 zcX5_spentInAll rfl rfl
theorem dX5_spentInAll_23 : decode cX5_spentInAll 23 = .ok (.getfield 13, 3) := k_180 zcX5_spentInAll rfl rfl rfl
theorem dX5_spentInAll_26 : decode cX5_spentInAll 26 = .ok (.iload_n 2, 1) := k_28 zcX5_spentInAll rfl rfl
theorem dX5_spentInAll_27 : decode cX5_spentInAll 27 = .ok (.aaload, 1) := k_50 zcX5_spentInAll rfl rfl
theorem dX5_spentInAll_28 : decode cX5_spentInAll 28 = .ok (.getfield 189, 3) := k_180 zcX5_spentInAll rfl rfl rfl
theorem dX5_spentInAll_31 : decode cX5_spentInAll 31 = .ok (.getfield 304, 3) := k_180 zcX5_spentInAll rfl rfl rfl
theorem dX5_spentInAll_34 : decode cX5_spentInAll 34 = .ok (.goto 4, 3) := k_167 zcX5_spentInAll rfl rfl rfl
theorem dX5_spentInAll_37 : decode cX5_spentInAll 37 = .ok (.iconst 0, 1) := k_3 zcX5_spentInAll rfl rfl
theorem dX5_spentInAll_38 : decode cX5_spentInAll 38 = .ok (.iadd, 1) := k_96 zcX5_spentInAll rfl rfl
theorem dX5_spentInAll_39 : decode cX5_spentInAll 39 = .ok (.istore_n 1, 1) := k_60 zcX5_spentInAll rfl rfl
theorem dX5_spentInAll_40 : decode cX5_spentInAll 40 = .ok (.iinc 2 1, 3) := k_132 zcX5_spentInAll rfl rfl rfl rfl
theorem dX5_spentInAll_43 : decode cX5_spentInAll 43 = .ok (.goto (-39), 3) := k_167 zcX5_spentInAll rfl rfl rfl
theorem dX5_spentInAll_46 : decode cX5_spentInAll 46 = .ok (.iload_n 1, 1) := k_27 zcX5_spentInAll rfl rfl
theorem dX5_spentInAll_47 : decode cX5_spentInAll 47 = .ok (.ireturn, 1) := k_172 zcX5_spentInAll rfl rfl
theorem dX5_toldWatches_0 : decode cX5_toldWatches 0 = .ok (.iconst 0, 1) := k_3 zcX5_toldWatches rfl rfl
theorem dX5_toldWatches_1 : decode cX5_toldWatches 1 = .ok (.istore_n 1, 1) := k_60 zcX5_toldWatches rfl rfl
theorem dX5_toldWatches_2 : decode cX5_toldWatches 2 = .ok (.iconst 0, 1) := k_3 zcX5_toldWatches rfl rfl
theorem dX5_toldWatches_3 : decode cX5_toldWatches 3 = .ok (.istore_n 2, 1) := k_61 zcX5_toldWatches rfl rfl
theorem dX5_toldWatches_4 : decode cX5_toldWatches 4 = .ok (.iload_n 2, 1) := k_28 zcX5_toldWatches rfl rfl
theorem dX5_toldWatches_5 : decode cX5_toldWatches 5 = .ok (.bipush 8, 2) := k_16 zcX5_toldWatches rfl rfl rfl
theorem dX5_toldWatches_7 : decode cX5_toldWatches 7 = .ok (.if_icmp .ge 25, 3) := k_162 zcX5_toldWatches rfl rfl rfl
theorem dX5_toldWatches_10 : decode cX5_toldWatches 10 = .ok (.iload_n 1, 1) := k_27 zcX5_toldWatches rfl rfl
theorem dX5_toldWatches_11 : decode cX5_toldWatches 11 = .ok (.aload_n 0, 1) := k_42 zcX5_toldWatches rfl rfl
theorem dX5_toldWatches_12 : decode cX5_toldWatches 12 = .ok (.iload_n 2, 1) := k_28 zcX5_toldWatches rfl rfl
theorem dX5_toldWatches_13 : decode cX5_toldWatches 13 = .ok (.invokevirtual 312, 3) := k_182 zcX5_toldWatches rfl rfl rfl
theorem dX5_toldWatches_16 : decode cX5_toldWatches 16 = .ok (.ifCond .eq 7, 3) := k_153 zcX5_toldWatches rfl rfl rfl
theorem dX5_toldWatches_19 : decode cX5_toldWatches 19 = .ok (.iconst 1, 1) := k_4 zcX5_toldWatches rfl rfl
theorem dX5_toldWatches_20 : decode cX5_toldWatches 20 = .ok (.goto 4, 3) := k_167 zcX5_toldWatches rfl rfl rfl
theorem dX5_toldWatches_23 : decode cX5_toldWatches 23 = .ok (.iconst 0, 1) := k_3 zcX5_toldWatches rfl rfl
theorem dX5_toldWatches_24 : decode cX5_toldWatches 24 = .ok (.iadd, 1) := k_96 zcX5_toldWatches rfl rfl
theorem dX5_toldWatches_25 : decode cX5_toldWatches 25 = .ok (.istore_n 1, 1) := k_60 zcX5_toldWatches rfl rfl
theorem dX5_toldWatches_26 : decode cX5_toldWatches 26 = .ok (.iinc 2 1, 3) := k_132 zcX5_toldWatches rfl rfl rfl rfl
theorem dX5_toldWatches_29 : decode cX5_toldWatches 29 = .ok (.goto (-25), 3) := k_167 zcX5_toldWatches rfl rfl rfl
theorem dX5_toldWatches_32 : decode cX5_toldWatches 32 = .ok (.iload_n 1, 1) := k_27 zcX5_toldWatches rfl rfl
theorem dX5_toldWatches_33 : decode cX5_toldWatches 33 = .ok (.ireturn, 1) := k_172 zcX5_toldWatches rfl rfl
theorem dX5_fullBoxes_0 : decode cX5_fullBoxes 0 = .ok (.iconst 0, 1) := k_3 zcX5_fullBoxes rfl rfl
theorem dX5_fullBoxes_1 : decode cX5_fullBoxes 1 = .ok (.istore_n 1, 1) := k_60 zcX5_fullBoxes rfl rfl
theorem dX5_fullBoxes_2 : decode cX5_fullBoxes 2 = .ok (.iconst 0, 1) := k_3 zcX5_fullBoxes rfl rfl
theorem dX5_fullBoxes_3 : decode cX5_fullBoxes 3 = .ok (.istore_n 2, 1) := k_61 zcX5_fullBoxes rfl rfl
theorem dX5_fullBoxes_4 : decode cX5_fullBoxes 4 = .ok (.iload_n 2, 1) := k_28 zcX5_fullBoxes rfl rfl
theorem dX5_fullBoxes_5 : decode cX5_fullBoxes 5 = .ok (.iconst 3, 1) := k_6 zcX5_fullBoxes rfl rfl
theorem dX5_fullBoxes_6 : decode cX5_fullBoxes 6 = .ok (.if_icmp .ge 29, 3) := k_162 zcX5_fullBoxes rfl rfl rfl
theorem dX5_fullBoxes_9 : decode cX5_fullBoxes 9 = .ok (.iload_n 1, 1) := k_27 zcX5_fullBoxes rfl rfl
theorem dX5_fullBoxes_10 : decode cX5_fullBoxes 10 = .ok (.aload_n 0, 1) := k_42 zcX5_fullBoxes rfl rfl
theorem dX5_fullBoxes_11 : decode cX5_fullBoxes 11 = .ok (.getfield 27, 3) := k_180 zcX5_fullBoxes rfl rfl rfl
theorem dX5_fullBoxes_14 : decode cX5_fullBoxes 14 = .ok (.iload_n 2, 1) := k_28 zcX5_fullBoxes rfl rfl
theorem dX5_fullBoxes_15 : decode cX5_fullBoxes 15 = .ok (.aaload, 1) := k_50 zcX5_fullBoxes rfl rfl
theorem dX5_fullBoxes_16 : decode cX5_fullBoxes 16 = .ok (.getfield 94, 3) := k_180 zcX5_fullBoxes rfl rfl rfl
theorem dX5_fullBoxes_19 : decode cX5_fullBoxes 19 = .ok (.ifCond .eq 7, 3) := k_153 zcX5_fullBoxes rfl rfl rfl
theorem dX5_fullBoxes_22 : decode cX5_fullBoxes 22 = .ok (.iconst 1, 1) := k_4 zcX5_fullBoxes rfl rfl
theorem dX5_fullBoxes_23 : decode cX5_fullBoxes 23 = .ok (.goto 4, 3) := k_167 zcX5_fullBoxes rfl rfl rfl
theorem dX5_fullBoxes_26 : decode cX5_fullBoxes 26 = .ok (.iconst 0, 1) := k_3 zcX5_fullBoxes rfl rfl
theorem dX5_fullBoxes_27 : decode cX5_fullBoxes 27 = .ok (.iadd, 1) := k_96 zcX5_fullBoxes rfl rfl
theorem dX5_fullBoxes_28 : decode cX5_fullBoxes 28 = .ok (.istore_n 1, 1) := k_60 zcX5_fullBoxes rfl rfl
theorem dX5_fullBoxes_29 : decode cX5_fullBoxes 29 = .ok (.iinc 2 1, 3) := k_132 zcX5_fullBoxes rfl rfl rfl rfl
theorem dX5_fullBoxes_32 : decode cX5_fullBoxes 32 = .ok (.goto (-28), 3) := k_167 zcX5_fullBoxes rfl rfl rfl
theorem dX5_fullBoxes_35 : decode cX5_fullBoxes 35 = .ok (.iload_n 1, 1) := k_27 zcX5_fullBoxes rfl rfl
theorem dX5_fullBoxes_36 : decode cX5_fullBoxes 36 = .ok (.ireturn, 1) := k_172 zcX5_fullBoxes rfl rfl
theorem dX5_ringsInAll_0 : decode cX5_ringsInAll 0 = .ok (.iconst 0, 1) := k_3 zcX5_ringsInAll rfl rfl
theorem dX5_ringsInAll_1 : decode cX5_ringsInAll 1 = .ok (.istore_n 1, 1) := k_60 zcX5_ringsInAll rfl rfl
theorem dX5_ringsInAll_2 : decode cX5_ringsInAll 2 = .ok (.iconst 0, 1) := k_3 zcX5_ringsInAll rfl rfl
theorem dX5_ringsInAll_3 : decode cX5_ringsInAll 3 = .ok (.istore_n 2, 1) := k_61 zcX5_ringsInAll rfl rfl
theorem dX5_ringsInAll_4 : decode cX5_ringsInAll 4 = .ok (.iload_n 2, 1) := k_28 zcX5_ringsInAll rfl rfl
theorem dX5_ringsInAll_5 : decode cX5_ringsInAll 5 = .ok (.bipush 8, 2) := k_16 zcX5_ringsInAll rfl rfl rfl
theorem dX5_ringsInAll_7 : decode cX5_ringsInAll 7 = .ok (.if_icmp .ge 33, 3) := k_162 zcX5_ringsInAll rfl rfl rfl
theorem dX5_ringsInAll_10 : decode cX5_ringsInAll 10 = .ok (.iload_n 1, 1) := k_27 zcX5_ringsInAll rfl rfl
theorem dX5_ringsInAll_11 : decode cX5_ringsInAll 11 = .ok (.aload_n 0, 1) := k_42 zcX5_ringsInAll rfl rfl
theorem dX5_ringsInAll_12 : decode cX5_ringsInAll 12 = .ok (.iload_n 2, 1) := k_28 zcX5_ringsInAll rfl rfl
theorem dX5_ringsInAll_13 : decode cX5_ringsInAll 13 = .ok (.invokevirtual 312, 3) := k_182 zcX5_ringsInAll rfl rfl rfl
theorem dX5_ringsInAll_16 : decode cX5_ringsInAll 16 = .ok (.ifCond .eq 15, 3) := k_153 zcX5_ringsInAll rfl rfl rfl
theorem dX5_ringsInAll_19 : decode cX5_ringsInAll 19 = .ok (.aload_n 0, 1) := k_42 zcX5_ringsInAll rfl rfl
theorem dX5_ringsInAll_20 : decode cX5_ringsInAll 20 = .ok (.getfield 32, 3) := k_180 zcX5_ringsInAll rfl rfl rfl
theorem dX5_ringsInAll_23 : decode cX5_ringsInAll 23 = .ok (.iload_n 2, 1) := k_28 zcX5_ringsInAll rfl rfl
theorem dX5_ringsInAll_24 : decode cX5_ringsInAll 24 = .ok (.aaload, 1) := k_50 zcX5_ringsInAll rfl rfl
theorem dX5_ringsInAll_25 : decode cX5_ringsInAll 25 = .ok (.getfield 315, 3) := k_180 zcX5_ringsInAll rfl rfl rfl
theorem dX5_ringsInAll_28 : decode cX5_ringsInAll 28 = .ok (.goto 4, 3) := k_167 zcX5_ringsInAll rfl rfl rfl
theorem dX5_ringsInAll_31 : decode cX5_ringsInAll 31 = .ok (.iconst 0, 1) := k_3 zcX5_ringsInAll rfl rfl
theorem dX5_ringsInAll_32 : decode cX5_ringsInAll 32 = .ok (.iadd, 1) := k_96 zcX5_ringsInAll rfl rfl
theorem dX5_ringsInAll_33 : decode cX5_ringsInAll 33 = .ok (.istore_n 1, 1) := k_60 zcX5_ringsInAll rfl rfl
theorem dX5_ringsInAll_34 : decode cX5_ringsInAll 34 = .ok (.iinc 2 1, 3) := k_132 zcX5_ringsInAll rfl rfl rfl rfl
theorem dX5_ringsInAll_37 : decode cX5_ringsInAll 37 = .ok (.goto (-33), 3) := k_167 zcX5_ringsInAll rfl rfl rfl
theorem dX5_ringsInAll_40 : decode cX5_ringsInAll 40 = .ok (.iload_n 1, 1) := k_27 zcX5_ringsInAll rfl rfl
theorem dX5_ringsInAll_41 : decode cX5_ringsInAll 41 = .ok (.ireturn, 1) := k_172 zcX5_ringsInAll rfl rfl
theorem dX5_linksInAll_0 : decode cX5_linksInAll 0 = .ok (.iconst 0, 1) := k_3 zcX5_linksInAll rfl rfl
theorem dX5_linksInAll_1 : decode cX5_linksInAll 1 = .ok (.istore_n 1, 1) := k_60 zcX5_linksInAll rfl rfl
theorem dX5_linksInAll_2 : decode cX5_linksInAll 2 = .ok (.iconst 0, 1) := k_3 zcX5_linksInAll rfl rfl
theorem dX5_linksInAll_3 : decode cX5_linksInAll 3 = .ok (.istore_n 2, 1) := k_61 zcX5_linksInAll rfl rfl
theorem dX5_linksInAll_4 : decode cX5_linksInAll 4 = .ok (.iload_n 2, 1) := k_28 zcX5_linksInAll rfl rfl
theorem dX5_linksInAll_5 : decode cX5_linksInAll 5 = .ok (.iconst 4, 1) := k_7 zcX5_linksInAll rfl rfl
theorem dX5_linksInAll_6 : decode cX5_linksInAll 6 = .ok (.if_icmp .ge 30, 3) := k_162 zcX5_linksInAll rfl rfl rfl
theorem dX5_linksInAll_9 : decode cX5_linksInAll 9 = .ok (.iload_n 1, 1) := k_27 zcX5_linksInAll rfl rfl
theorem dX5_linksInAll_10 : decode cX5_linksInAll 10 = .ok (.aload_n 0, 1) := k_42 zcX5_linksInAll rfl rfl
theorem dX5_linksInAll_11 : decode cX5_linksInAll 11 = .ok (.getfield 19, 3) := k_180 zcX5_linksInAll rfl rfl rfl
theorem dX5_linksInAll_14 : decode cX5_linksInAll 14 = .ok (.iload_n 2, 1) := k_28 zcX5_linksInAll rfl rfl
theorem dX5_linksInAll_15 : decode cX5_linksInAll 15 = .ok (.aaload, 1) := k_50 zcX5_linksInAll rfl rfl
theorem dX5_linksInAll_16 : decode cX5_linksInAll 16 = .ok (.getfield 215, 3) := k_180 zcX5_linksInAll rfl rfl rfl
theorem dX5_linksInAll_19 : decode cX5_linksInAll 19 = .ok (.iconst (-1), 1) := k_2 zcX5_linksInAll rfl rfl
theorem dX5_linksInAll_20 : decode cX5_linksInAll 20 = .ok (.if_icmp .eq 7, 3) := k_159 zcX5_linksInAll rfl rfl rfl
theorem dX5_linksInAll_23 : decode cX5_linksInAll 23 = .ok (.iconst 1, 1) := k_4 zcX5_linksInAll rfl rfl
theorem dX5_linksInAll_24 : decode cX5_linksInAll 24 = .ok (.goto 4, 3) := k_167 zcX5_linksInAll rfl rfl rfl
theorem dX5_linksInAll_27 : decode cX5_linksInAll 27 = .ok (.iconst 0, 1) := k_3 zcX5_linksInAll rfl rfl
theorem dX5_linksInAll_28 : decode cX5_linksInAll 28 = .ok (.iadd, 1) := k_96 zcX5_linksInAll rfl rfl
theorem dX5_linksInAll_29 : decode cX5_linksInAll 29 = .ok (.istore_n 1, 1) := k_60 zcX5_linksInAll rfl rfl
theorem dX5_linksInAll_30 : decode cX5_linksInAll 30 = .ok (.iinc 2 1, 3) := k_132 zcX5_linksInAll rfl rfl rfl rfl
theorem dX5_linksInAll_33 : decode cX5_linksInAll 33 = .ok (.goto (-29), 3) := k_167 zcX5_linksInAll rfl rfl rfl
theorem dX5_linksInAll_36 : decode cX5_linksInAll 36 = .ok (.iload_n 1, 1) := k_27 zcX5_linksInAll rfl rfl
theorem dX5_linksInAll_37 : decode cX5_linksInAll 37 = .ok (.ireturn, 1) := k_172 zcX5_linksInAll rfl rfl
theorem dX5_within_0 : decode cX5_within 0 = .ok (.iload_n 1, 1) := k_27 zcX5_within rfl rfl
theorem dX5_within_1 : decode cX5_within 1 = .ok (.iload_n 0, 1) := k_26 zcX5_within rfl rfl
theorem dX5_within_2 : decode cX5_within 2 = .ok (.if_icmp .gt 12, 3) := k_163 zcX5_within rfl rfl rfl
theorem dX5_within_5 : decode cX5_within 5 = .ok (.iload_n 0, 1) := k_26 zcX5_within rfl rfl
theorem dX5_within_6 : decode cX5_within 6 = .ok (.iload_n 2, 1) := k_28 zcX5_within rfl rfl
theorem dX5_within_7 : decode cX5_within 7 = .ok (.if_icmp .gt 7, 3) := k_163 zcX5_within rfl rfl rfl
theorem dX5_within_10 : decode cX5_within 10 = .ok (.iconst 1, 1) := k_4 zcX5_within rfl rfl
theorem dX5_within_11 : decode cX5_within 11 = .ok (.goto 4, 3) := k_167 zcX5_within rfl rfl rfl
theorem dX5_within_14 : decode cX5_within 14 = .ok (.iconst 0, 1) := k_3 zcX5_within rfl rfl
theorem dX5_within_15 : decode cX5_within 15 = .ok (.ireturn, 1) := k_172 zcX5_within rfl rfl
theorem dX5_isLane_0 : decode cX5_isLane 0 = .ok (.iload_n 0, 1) := k_26 zcX5_isLane rfl rfl
theorem dX5_isLane_1 : decode cX5_isLane 1 = .ok (.iconst 0, 1) := k_3 zcX5_isLane rfl rfl
theorem dX5_isLane_2 : decode cX5_isLane 2 = .ok (.iconst 3, 1) := k_6 zcX5_isLane rfl rfl
theorem dX5_isLane_3 : decode cX5_isLane 3 = .ok (.invokestatic 59, 3) := k_184 zcX5_isLane rfl rfl rfl
theorem dX5_isLane_6 : decode cX5_isLane 6 = .ok (.ireturn, 1) := k_172 zcX5_isLane rfl rfl
theorem dX5_isTime_0 : decode cX5_isTime 0 = .ok (.iload_n 0, 1) := k_26 zcX5_isTime rfl rfl
theorem dX5_isTime_1 : decode cX5_isTime 1 = .ok (.iconst 0, 1) := k_3 zcX5_isTime rfl rfl
theorem dX5_isTime_2 : decode cX5_isTime 2 = .ok (.ldc_w 284, 3) := k_19 zcX5_isTime rfl rfl rfl
theorem dX5_isTime_5 : decode cX5_isTime 5 = .ok (.invokestatic 59, 3) := k_184 zcX5_isTime rfl rfl rfl
theorem dX5_isTime_8 : decode cX5_isTime 8 = .ok (.ireturn, 1) := k_172 zcX5_isTime rfl rfl
theorem dX5_isValue_0 : decode cX5_isValue 0 = .ok (.iload_n 0, 1) := k_26 zcX5_isValue rfl rfl
theorem dX5_isValue_1 : decode cX5_isValue 1 = .ok (.sipush (-1000), 3) := k_17 zcX5_isValue rfl rfl rfl
theorem dX5_isValue_4 : decode cX5_isValue 4 = .ok (.sipush 1000, 3) := k_17 zcX5_isValue rfl rfl rfl
theorem dX5_isValue_7 : decode cX5_isValue 7 = .ok (.invokestatic 59, 3) := k_184 zcX5_isValue rfl rfl rfl
theorem dX5_isValue_10 : decode cX5_isValue 10 = .ok (.ireturn, 1) := k_172 zcX5_isValue rfl rfl
theorem dX5_isGap_0 : decode cX5_isGap 0 = .ok (.iload_n 0, 1) := k_26 zcX5_isGap rfl rfl
theorem dX5_isGap_1 : decode cX5_isGap 1 = .ok (.iconst 0, 1) := k_3 zcX5_isGap rfl rfl
theorem dX5_isGap_2 : decode cX5_isGap 2 = .ok (.ldc_w 284, 3) := k_19 zcX5_isGap rfl rfl rfl
theorem dX5_isGap_5 : decode cX5_isGap 5 = .ok (.invokestatic 59, 3) := k_184 zcX5_isGap rfl rfl rfl
theorem dX5_isGap_8 : decode cX5_isGap 8 = .ok (.ireturn, 1) := k_172 zcX5_isGap rfl rfl
theorem dX5_openLane_0 : decode cX5_openLane 0 = .ok (.iload_n 1, 1) := k_27 zcX5_openLane rfl rfl
theorem dX5_openLane_1 : decode cX5_openLane 1 = .ok (.invokestatic 102, 3) := k_184 zcX5_openLane rfl rfl rfl
theorem dX5_openLane_4 : decode cX5_openLane 4 = .ok (.ifCond .eq 24, 3) := k_153 zcX5_openLane rfl rfl rfl
theorem dX5_openLane_7 : decode cX5_openLane 7 = .ok (.aload_n 0, 1) := k_42 zcX5_openLane rfl rfl
theorem dX5_openLane_8 : decode cX5_openLane 8 = .ok (.getfield 13, 3) := k_180 zcX5_openLane rfl rfl rfl
theorem dX5_openLane_11 : decode cX5_openLane 11 = .ok (.iload_n 1, 1) := k_27 zcX5_openLane rfl rfl
theorem dX5_openLane_12 : decode cX5_openLane 12 = .ok (.aaload, 1) := k_50 zcX5_openLane rfl rfl
theorem dX5_openLane_13 : decode cX5_openLane 13 = .ok (.getfield 94, 3) := k_180 zcX5_openLane rfl rfl rfl
theorem dX5_openLane_16 : decode cX5_openLane 16 = .ok (.ifCond .eq 12, 3) := k_153 zcX5_openLane rfl rfl rfl
theorem dX5_openLane_19 : decode cX5_openLane 19 = .ok (.aload_n 0, 1) := k_42 zcX5_openLane rfl rfl
theorem dX5_openLane_20 : decode cX5_openLane 20 = .ok (.getfield 13, 3) := k_180 zcX5_openLane rfl rfl rfl
theorem dX5_openLane_23 : decode cX5_openLane 23 = .ok (.iload_n 1, 1) := k_27 zcX5_openLane rfl rfl
theorem dX5_openLane_24 : decode cX5_openLane 24 = .ok (.aaload, 1) := k_50 zcX5_openLane rfl rfl
theorem dX5_openLane_25 : decode cX5_openLane 25 = .ok (.goto 4, 3) := k_167 zcX5_openLane rfl rfl rfl
theorem dX5_openLane_28 : decode cX5_openLane 28 = .ok (.aconst_null, 1) := k_1 zcX5_openLane rfl rfl
theorem dX5_openLane_29 : decode cX5_openLane 29 = .ok (.areturn, 1) := k_176 zcX5_openLane rfl rfl
theorem dX5_laneWith_0 : decode cX5_laneWith 0 = .ok (.aload_n 0, 1) := k_42 zcX5_laneWith rfl rfl
theorem dX5_laneWith_1 : decode cX5_laneWith 1 = .ok (.iload_n 1, 1) := k_27 zcX5_laneWith rfl rfl
theorem dX5_laneWith_2 : decode cX5_laneWith 2 = .ok (.invokevirtual 123, 3) := k_182 zcX5_laneWith rfl rfl rfl
theorem dX5_laneWith_5 : decode cX5_laneWith 5 = .ok (.astore_n 3, 1) := k_78 zcX5_laneWith rfl rfl
theorem dX5_laneWith_6 : decode cX5_laneWith 6 = .ok (.aload_n 3, 1) := k_45 zcX5_laneWith rfl rfl
theorem dX5_laneWith_7 : decode cX5_laneWith 7 = .ok (.ifnull 15, 3) := k_198 zcX5_laneWith rfl rfl rfl
theorem dX5_laneWith_10 : decode cX5_laneWith 10 = .ok (.aload_n 3, 1) := k_45 zcX5_laneWith rfl rfl
theorem dX5_laneWith_11 : decode cX5_laneWith 11 = .ok (.iload_n 2, 1) := k_28 zcX5_laneWith rfl rfl
theorem dX5_laneWith_12 : decode cX5_laneWith 12 = .ok (.invokevirtual 266, 3) := k_182 zcX5_laneWith rfl rfl rfl
theorem dX5_laneWith_15 : decode cX5_laneWith 15 = .ok (.ifCond .eq 7, 3) := k_153 zcX5_laneWith rfl rfl rfl
theorem dX5_laneWith_18 : decode cX5_laneWith 18 = .ok (.aload_n 3, 1) := k_45 zcX5_laneWith rfl rfl
theorem dX5_laneWith_19 : decode cX5_laneWith 19 = .ok (.goto 4, 3) := k_167 zcX5_laneWith rfl rfl rfl
theorem dX5_laneWith_22 : decode cX5_laneWith 22 = .ok (.aconst_null, 1) := k_1 zcX5_laneWith rfl rfl
theorem dX5_laneWith_23 : decode cX5_laneWith 23 = .ok (.areturn, 1) := k_176 zcX5_laneWith rfl rfl
theorem dX5_laneHolding_0 : decode cX5_laneHolding 0 = .ok (.aload_n 0, 1) := k_42 zcX5_laneHolding rfl rfl
theorem dX5_laneHolding_1 : decode cX5_laneHolding 1 = .ok (.iload_n 1, 1) := k_27 zcX5_laneHolding rfl rfl
theorem dX5_laneHolding_2 : decode cX5_laneHolding 2 = .ok (.invokevirtual 123, 3) := k_182 zcX5_laneHolding rfl rfl rfl
theorem dX5_laneHolding_5 : decode cX5_laneHolding 5 = .ok (.astore_n 3, 1) := k_78 zcX5_laneHolding rfl rfl
theorem dX5_laneHolding_6 : decode cX5_laneHolding 6 = .ok (.aload_n 3, 1) := k_45 zcX5_laneHolding rfl rfl
theorem dX5_laneHolding_7 : decode cX5_laneHolding 7 = .ok (.ifnull 21, 3) := k_198 zcX5_laneHolding rfl rfl rfl
theorem dX5_laneHolding_10 : decode cX5_laneHolding 10 = .ok (.iload_n 2, 1) := k_28 zcX5_laneHolding rfl rfl
theorem dX5_laneHolding_11 : decode cX5_laneHolding 11 = .ok (.iconst 0, 1) := k_3 zcX5_laneHolding rfl rfl
theorem dX5_laneHolding_12 : decode cX5_laneHolding 12 = .ok (.aload_n 3, 1) := k_45 zcX5_laneHolding rfl rfl
theorem dX5_laneHolding_13 : decode cX5_laneHolding 13 = .ok (.getfield 154, 3) := k_180 zcX5_laneHolding rfl rfl rfl
theorem dX5_laneHolding_16 : decode cX5_laneHolding 16 = .ok (.iconst 1, 1) := k_4 zcX5_laneHolding rfl rfl
theorem dX5_laneHolding_17 : decode cX5_laneHolding 17 = .ok (.isub, 1) := k_100 zcX5_laneHolding rfl rfl
theorem dX5_laneHolding_18 : decode cX5_laneHolding 18 = .ok (.invokestatic 59, 3) := k_184 zcX5_laneHolding rfl rfl rfl
theorem dX5_laneHolding_21 : decode cX5_laneHolding 21 = .ok (.ifCond .eq 7, 3) := k_153 zcX5_laneHolding rfl rfl rfl
theorem dX5_laneHolding_24 : decode cX5_laneHolding 24 = .ok (.aload_n 3, 1) := k_45 zcX5_laneHolding rfl rfl
theorem dX5_laneHolding_25 : decode cX5_laneHolding 25 = .ok (.goto 4, 3) := k_167 zcX5_laneHolding rfl rfl rfl
theorem dX5_laneHolding_28 : decode cX5_laneHolding 28 = .ok (.aconst_null, 1) := k_1 zcX5_laneHolding rfl rfl
theorem dX5_laneHolding_29 : decode cX5_laneHolding 29 = .ok (.areturn, 1) := k_176 zcX5_laneHolding rfl rfl
theorem dX5_comesTo_0 : decode cX5_comesTo 0 = .ok (.aload_n 0, 1) := k_42 zcX5_comesTo rfl rfl
theorem dX5_comesTo_1 : decode cX5_comesTo 1 = .ok (.aload_n 1, 1) := k_43 zcX5_comesTo rfl rfl
theorem dX5_comesTo_2 : decode cX5_comesTo 2 = .ok (.iload_n 2, 1) := k_28 zcX5_comesTo rfl rfl
theorem dX5_comesTo_3 : decode cX5_comesTo 3 = .ok (.iload_n 3, 1) := k_29 zcX5_comesTo rfl rfl
theorem dX5_comesTo_4 : decode cX5_comesTo 4 = .ok (.invokevirtual 259, 3) := k_182 zcX5_comesTo rfl rfl rfl
theorem dX5_comesTo_7 : decode cX5_comesTo 7 = .ok (.aload_n 0, 1) := k_42 zcX5_comesTo rfl rfl
theorem dX5_comesTo_8 : decode cX5_comesTo 8 = .ok (.getfield 40, 3) := k_180 zcX5_comesTo rfl rfl rfl
theorem dX5_comesTo_11 : decode cX5_comesTo 11 = .ok (.iload 4, 2) := k_21 zcX5_comesTo rfl rfl rfl
theorem dX5_comesTo_13 : decode cX5_comesTo 13 = .ok (.invokevirtual 273, 3) := k_182 zcX5_comesTo rfl rfl rfl
theorem dX5_comesTo_16 : decode cX5_comesTo 16 = .ok (.ireturn, 1) := k_172 zcX5_comesTo rfl rfl
theorem dX5_comesToWithout_0 : decode cX5_comesToWithout 0 = .ok (.aload_n 0, 1) := k_42 zcX5_comesToWithout rfl rfl
theorem dX5_comesToWithout_1 : decode cX5_comesToWithout 1 = .ok (.aload_n 1, 1) := k_43 zcX5_comesToWithout rfl rfl
theorem dX5_comesToWithout_2 : decode cX5_comesToWithout 2 = .ok (.iconst 0, 1) := k_3 zcX5_comesToWithout rfl rfl
theorem dX5_comesToWithout_3 : decode cX5_comesToWithout 3 = .ok (.iload_n 2, 1) := k_28 zcX5_comesToWithout rfl rfl
theorem dX5_comesToWithout_4 : decode cX5_comesToWithout 4 = .ok (.invokevirtual 259, 3) := k_182 zcX5_comesToWithout rfl rfl rfl
theorem dX5_comesToWithout_7 : decode cX5_comesToWithout 7 = .ok (.iload_n 2, 1) := k_28 zcX5_comesToWithout rfl rfl
theorem dX5_comesToWithout_8 : decode cX5_comesToWithout 8 = .ok (.iconst 1, 1) := k_4 zcX5_comesToWithout rfl rfl
theorem dX5_comesToWithout_9 : decode cX5_comesToWithout 9 = .ok (.iadd, 1) := k_96 zcX5_comesToWithout rfl rfl
theorem dX5_comesToWithout_10 : decode cX5_comesToWithout 10 = .ok (.istore 4, 2) := k_54 zcX5_comesToWithout rfl rfl rfl
theorem dX5_comesToWithout_12 : decode cX5_comesToWithout 12 = .ok (.iload 4, 2) := k_21 zcX5_comesToWithout rfl rfl rfl
theorem dX5_comesToWithout_14 : decode cX5_comesToWithout 14 = .ok (.aload_n 1, 1) := k_43 zcX5_comesToWithout rfl rfl
theorem dX5_comesToWithout_15 : decode cX5_comesToWithout 15 = .ok (.getfield 154, 3) := k_180 zcX5_comesToWithout rfl rfl rfl
theorem dX5_comesToWithout_18 : decode cX5_comesToWithout 18 = .ok (.if_icmp .ge 23, 3) := k_162 zcX5_comesToWithout rfl rfl rfl
theorem dX5_comesToWithout_21 : decode cX5_comesToWithout 21 = .ok (.aload_n 0, 1) := k_42 zcX5_comesToWithout rfl rfl
theorem dX5_comesToWithout_22 : decode cX5_comesToWithout 22 = .ok (.getfield 40, 3) := k_180 zcX5_comesToWithout rfl rfl rfl
theorem dX5_comesToWithout_25 : decode cX5_comesToWithout 25 = .ok (.aload_n 1, 1) := k_43 zcX5_comesToWithout rfl rfl
theorem dX5_comesToWithout_26 : decode cX5_comesToWithout 26 = .ok (.getfield 176, 3) := k_180 zcX5_comesToWithout rfl rfl rfl
theorem dX5_comesToWithout_29 : decode cX5_comesToWithout 29 = .ok (.iload 4, 2) := k_21 zcX5_comesToWithout rfl rfl rfl
theorem dX5_comesToWithout_31 : decode cX5_comesToWithout 31 = .ok (.iaload, 1) := k_46 zcX5_comesToWithout rfl rfl
theorem dX5_comesToWithout_32 : decode cX5_comesToWithout 32 = .ok (.invokevirtual 253, 3) := k_182 zcX5_comesToWithout rfl rfl rfl
theorem dX5_comesToWithout_35 : decode cX5_comesToWithout 35 = .ok (.iinc 4 1, 3) := k_132 zcX5_comesToWithout rfl rfl rfl rfl
theorem dX5_comesToWithout_38 : decode cX5_comesToWithout 38 = .ok (.goto (-26), 3) := k_167 zcX5_comesToWithout rfl rfl rfl
theorem dX5_comesToWithout_41 : decode cX5_comesToWithout 41 = .ok (.aload_n 0, 1) := k_42 zcX5_comesToWithout rfl rfl
theorem dX5_comesToWithout_42 : decode cX5_comesToWithout 42 = .ok (.getfield 40, 3) := k_180 zcX5_comesToWithout rfl rfl rfl
theorem dX5_comesToWithout_45 : decode cX5_comesToWithout 45 = .ok (.iload_n 3, 1) := k_29 zcX5_comesToWithout rfl rfl
theorem dX5_comesToWithout_46 : decode cX5_comesToWithout 46 = .ok (.invokevirtual 273, 3) := k_182 zcX5_comesToWithout rfl rfl rfl
theorem dX5_comesToWithout_49 : decode cX5_comesToWithout 49 = .ok (.ireturn, 1) := k_172 zcX5_comesToWithout rfl rfl
theorem dX5_foldPart_0 : decode cX5_foldPart 0 = .ok (.aload_n 0, 1) := k_42 zcX5_foldPart rfl rfl
theorem dX5_foldPart_1 : decode cX5_foldPart 1 = .ok (.getfield 40, 3) := k_180 zcX5_foldPart rfl rfl rfl
theorem dX5_foldPart_4 : decode cX5_foldPart 4 = .ok (.aload_n 1, 1) := k_43 zcX5_foldPart rfl rfl
theorem dX5_foldPart_5 : decode cX5_foldPart 5 = .ok (.getfield 98, 3) := k_180 zcX5_foldPart rfl rfl rfl
theorem dX5_foldPart_8 : decode cX5_foldPart 8 = .ok (.invokevirtual 251, 3) := k_182 zcX5_foldPart rfl rfl rfl
theorem dX5_foldPart_11 : decode cX5_foldPart 11 = .ok (.iload_n 2, 1) := k_28 zcX5_foldPart rfl rfl
theorem dX5_foldPart_12 : decode cX5_foldPart 12 = .ok (.istore 4, 2) := k_54 zcX5_foldPart rfl rfl rfl
theorem dX5_foldPart_14 : decode cX5_foldPart 14 = .ok (.iload 4, 2) := k_21 zcX5_foldPart rfl rfl rfl
theorem dX5_foldPart_16 : decode cX5_foldPart 16 = .ok (.iload_n 3, 1) := k_29 zcX5_foldPart rfl rfl
theorem dX5_foldPart_17 : decode cX5_foldPart 17 = .ok (.if_icmp .ge 23, 3) := k_162 zcX5_foldPart rfl rfl rfl
theorem dX5_foldPart_20 : decode cX5_foldPart 20 = .ok (.aload_n 0, 1) := k_42 zcX5_foldPart rfl rfl
theorem dX5_foldPart_21 : decode cX5_foldPart 21 = .ok (.getfield 40, 3) := k_180 zcX5_foldPart rfl rfl rfl
theorem dX5_foldPart_24 : decode cX5_foldPart 24 = .ok (.aload_n 1, 1) := k_43 zcX5_foldPart rfl rfl
theorem dX5_foldPart_25 : decode cX5_foldPart 25 = .ok (.getfield 176, 3) := k_180 zcX5_foldPart rfl rfl rfl
theorem dX5_foldPart_28 : decode cX5_foldPart 28 = .ok (.iload 4, 2) := k_21 zcX5_foldPart rfl rfl rfl
theorem dX5_foldPart_30 : decode cX5_foldPart 30 = .ok (.iaload, 1) := k_46 zcX5_foldPart rfl rfl
theorem dX5_foldPart_31 : decode cX5_foldPart 31 = .ok (.invokevirtual 253, 3) := k_182 zcX5_foldPart rfl rfl rfl
theorem dX5_foldPart_34 : decode cX5_foldPart 34 = .ok (.iinc 4 1, 3) := k_132 zcX5_foldPart rfl rfl rfl rfl
theorem dX5_foldPart_37 : decode cX5_foldPart 37 = .ok (.goto (-23), 3) := k_167 zcX5_foldPart rfl rfl rfl
theorem dX5_foldPart_40 : decode cX5_foldPart 40 = .ok (.return_, 1) := k_177 zcX5_foldPart rfl rfl
theorem dX6_init_0 : decode cX6_init 0 = .ok (.aload_n 0, 1) := k_42 zcX6_init rfl rfl
theorem dX6_init_1 : decode cX6_init 1 = .ok (.invokespecial 1, 3) := k_183 zcX6_init rfl rfl rfl
theorem dX6_init_4 : decode cX6_init 4 = .ok (.aload_n 0, 1) := k_42 zcX6_init rfl rfl
theorem dX6_init_5 : decode cX6_init 5 = .ok (.sipush 176, 3) := k_17 zcX6_init rfl rfl rfl
theorem dX6_init_8 : decode cX6_init 8 = .ok (.newarray .int, 2) := k_188 zcX6_init rfl rfl rfl
theorem dX6_init_10 : decode cX6_init 10 = .ok (.putfield 7, 3) := k_181 zcX6_init rfl rfl rfl
theorem dX6_init_13 : decode cX6_init 13 = .ok (.aload_n 0, 1) := k_42 zcX6_init rfl rfl
theorem dX6_init_14 : decode cX6_init 14 = .ok (.sipush 968, 3) := k_17 zcX6_init rfl rfl rfl
theorem dX6_init_17 : decode cX6_init 17 = .ok (.newarray .int, 2) := k_188 zcX6_init rfl rfl rfl
theorem dX6_init_19 : decode cX6_init 19 = .ok (.putfield 13, 3) := k_181 zcX6_init rfl rfl rfl
theorem dX6_init_22 : decode cX6_init 22 = .ok (.aload_n 0, 1) := k_42 zcX6_init rfl rfl
theorem dX6_init_23 : decode cX6_init 23 = .ok (.sipush 968, 3) := k_17 zcX6_init rfl rfl rfl
theorem dX6_init_26 : decode cX6_init 26 = .ok (.newarray .int, 2) := k_188 zcX6_init rfl rfl rfl
theorem dX6_init_28 : decode cX6_init 28 = .ok (.putfield 16, 3) := k_181 zcX6_init rfl rfl rfl
theorem dX6_init_31 : decode cX6_init 31 = .ok (.aload_n 0, 1) := k_42 zcX6_init rfl rfl
theorem dX6_init_32 : decode cX6_init 32 = .ok (.sipush 968, 3) := k_17 zcX6_init rfl rfl rfl
theorem dX6_init_35 : decode cX6_init 35 = .ok (.newarray .int, 2) := k_188 zcX6_init rfl rfl rfl
theorem dX6_init_37 : decode cX6_init 37 = .ok (.putfield 19, 3) := k_181 zcX6_init rfl rfl rfl
theorem dX6_init_40 : decode cX6_init 40 = .ok (.aload_n 0, 1) := k_42 zcX6_init rfl rfl
theorem dX6_init_41 : decode cX6_init 41 = .ok (.bipush 16, 2) := k_16 zcX6_init rfl rfl rfl
theorem dX6_init_43 : decode cX6_init 43 = .ok (.newarray .int, 2) := k_188 zcX6_init rfl rfl rfl
theorem dX6_init_45 : decode cX6_init 45 = .ok (.putfield 22, 3) := k_181 zcX6_init rfl rfl rfl
theorem dX6_init_48 : decode cX6_init 48 = .ok (.aload_n 0, 1) := k_42 zcX6_init rfl rfl
theorem dX6_init_49 : decode cX6_init 49 = .ok (.bipush 8, 2) := k_16 zcX6_init rfl rfl rfl
theorem dX6_init_51 : decode cX6_init 51 = .ok (.newarray .int, 2) := k_188 zcX6_init rfl rfl rfl
theorem dX6_init_53 : decode cX6_init 53 = .ok (.putfield 25, 3) := k_181 zcX6_init rfl rfl rfl
theorem dX6_init_56 : decode cX6_init 56 = .ok (.aload_n 0, 1) := k_42 zcX6_init rfl rfl
theorem dX6_init_57 : decode cX6_init 57 = .ok (.sipush 242, 3) := k_17 zcX6_init rfl rfl rfl
theorem dX6_init_60 : decode cX6_init 60 = .ok (.newarray .int, 2) := k_188 zcX6_init rfl rfl rfl
theorem dX6_init_62 : decode cX6_init 62 = .ok (.putfield 28, 3) := k_181 zcX6_init rfl rfl rfl
theorem dX6_init_65 : decode cX6_init 65 = .ok (.aload_n 0, 1) := k_42 zcX6_init rfl rfl
theorem dX6_init_66 : decode cX6_init 66 = .ok (.bipush 7, 2) := k_16 zcX6_init rfl rfl rfl
theorem dX6_init_68 : decode cX6_init 68 = .ok (.newarray .int, 2) := k_188 zcX6_init rfl rfl rfl
theorem dX6_init_70 : decode cX6_init 70 = .ok (.putfield 31, 3) := k_181 zcX6_init rfl rfl rfl
theorem dX6_init_73 : decode cX6_init 73 = .ok (.aload_n 0, 1) := k_42 zcX6_init rfl rfl
theorem dX6_init_74 : decode cX6_init 74 = .ok (.bipush 8, 2) := k_16 zcX6_init rfl rfl rfl
theorem dX6_init_76 : decode cX6_init 76 = .ok (.newarray .int, 2) := k_188 zcX6_init rfl rfl rfl
theorem dX6_init_78 : decode cX6_init 78 = .ok (.putfield 34, 3) := k_181 zcX6_init rfl rfl rfl
theorem dX6_init_81 : decode cX6_init 81 = .ok (.aload_n 0, 1) := k_42 zcX6_init rfl rfl
theorem dX6_init_82 : decode cX6_init 82 = .ok (.bipush 8, 2) := k_16 zcX6_init rfl rfl rfl
theorem dX6_init_84 : decode cX6_init 84 = .ok (.newarray .int, 2) := k_188 zcX6_init rfl rfl rfl
theorem dX6_init_86 : decode cX6_init 86 = .ok (.putfield 37, 3) := k_181 zcX6_init rfl rfl rfl
theorem dX6_init_89 : decode cX6_init 89 = .ok (.aload_n 0, 1) := k_42 zcX6_init rfl rfl
theorem dX6_init_90 : decode cX6_init 90 = .ok (.bipush 8, 2) := k_16 zcX6_init rfl rfl rfl
theorem dX6_init_92 : decode cX6_init 92 = .ok (.newarray .int, 2) := k_188 zcX6_init rfl rfl rfl
theorem dX6_init_94 : decode cX6_init 94 = .ok (.putfield 40, 3) := k_181 zcX6_init rfl rfl rfl
theorem dX6_init_97 : decode cX6_init 97 = .ok (.aload_n 0, 1) := k_42 zcX6_init rfl rfl
theorem dX6_init_98 : decode cX6_init 98 = .ok (.bipush 8, 2) := k_16 zcX6_init rfl rfl rfl
theorem dX6_init_100 : decode cX6_init 100 = .ok (.newarray .int, 2) := k_188 zcX6_init rfl rfl rfl
theorem dX6_init_102 : decode cX6_init 102 = .ok (.putfield 43, 3) := k_181 zcX6_init rfl rfl rfl
theorem dX6_init_105 : decode cX6_init 105 = .ok (.aload_n 0, 1) := k_42 zcX6_init rfl rfl
theorem dX6_init_106 : decode cX6_init 106 = .ok (.bipush 8, 2) := k_16 zcX6_init rfl rfl rfl
theorem dX6_init_108 : decode cX6_init 108 = .ok (.newarray .int, 2) := k_188 zcX6_init rfl rfl rfl
theorem dX6_init_110 : decode cX6_init 110 = .ok (.putfield 46, 3) := k_181 zcX6_init rfl rfl rfl
theorem dX6_init_113 : decode cX6_init 113 = .ok (.aload_n 0, 1) := k_42 zcX6_init rfl rfl
theorem dX6_init_114 : decode cX6_init 114 = .ok (.bipush 8, 2) := k_16 zcX6_init rfl rfl rfl
theorem dX6_init_116 : decode cX6_init 116 = .ok (.newarray .int, 2) := k_188 zcX6_init rfl rfl rfl
theorem dX6_init_118 : decode cX6_init 118 = .ok (.putfield 49, 3) := k_181 zcX6_init rfl rfl rfl
theorem dX6_init_121 : decode cX6_init 121 = .ok (.aload_n 0, 1) := k_42 zcX6_init rfl rfl
theorem dX6_init_122 : decode cX6_init 122 = .ok (.iconst 4, 1) := k_7 zcX6_init rfl rfl
theorem dX6_init_123 : decode cX6_init 123 = .ok (.newarray .int, 2) := k_188 zcX6_init rfl rfl rfl
theorem dX6_init_125 : decode cX6_init 125 = .ok (.putfield 52, 3) := k_181 zcX6_init rfl rfl rfl
theorem dX6_init_128 : decode cX6_init 128 = .ok (.aload_n 0, 1) := k_42 zcX6_init rfl rfl
theorem dX6_init_129 : decode cX6_init 129 = .ok (.iconst 4, 1) := k_7 zcX6_init rfl rfl
theorem dX6_init_130 : decode cX6_init 130 = .ok (.newarray .int, 2) := k_188 zcX6_init rfl rfl rfl
theorem dX6_init_132 : decode cX6_init 132 = .ok (.putfield 55, 3) := k_181 zcX6_init rfl rfl rfl
theorem dX6_init_135 : decode cX6_init 135 = .ok (.aload_n 0, 1) := k_42 zcX6_init rfl rfl
theorem dX6_init_136 : decode cX6_init 136 = .ok (.iconst 4, 1) := k_7 zcX6_init rfl rfl
theorem dX6_init_137 : decode cX6_init 137 = .ok (.newarray .int, 2) := k_188 zcX6_init rfl rfl rfl
theorem dX6_init_139 : decode cX6_init 139 = .ok (.putfield 58, 3) := k_181 zcX6_init rfl rfl rfl
theorem dX6_init_142 : decode cX6_init 142 = .ok (.aload_n 0, 1) := k_42 zcX6_init rfl rfl
theorem dX6_init_143 : decode cX6_init 143 = .ok (.iconst 4, 1) := k_7 zcX6_init rfl rfl
theorem dX6_init_144 : decode cX6_init 144 = .ok (.newarray .int, 2) := k_188 zcX6_init rfl rfl rfl
theorem dX6_init_146 : decode cX6_init 146 = .ok (.putfield 61, 3) := k_181 zcX6_init rfl rfl rfl
theorem dX6_init_149 : decode cX6_init 149 = .ok (.aload_n 0, 1) := k_42 zcX6_init rfl rfl
theorem dX6_init_150 : decode cX6_init 150 = .ok (.bipush 7, 2) := k_16 zcX6_init rfl rfl rfl
theorem dX6_init_152 : decode cX6_init 152 = .ok (.newarray .int, 2) := k_188 zcX6_init rfl rfl rfl
theorem dX6_init_154 : decode cX6_init 154 = .ok (.putfield 64, 3) := k_181 zcX6_init rfl rfl rfl
theorem dX6_init_157 : decode cX6_init 157 = .ok (.aload_n 0, 1) := k_42 zcX6_init rfl rfl
theorem dX6_init_158 : decode cX6_init 158 = .ok (.sipush 14400, 3) := k_17 zcX6_init rfl rfl rfl
theorem dX6_init_161 : decode cX6_init 161 = .ok (.newarray .int, 2) := k_188 zcX6_init rfl rfl rfl
theorem dX6_init_163 : decode cX6_init 163 = .ok (.putfield 67, 3) := k_181 zcX6_init rfl rfl rfl
theorem dX6_init_166 : decode cX6_init 166 = .ok (.aload_n 0, 1) := k_42 zcX6_init rfl rfl
theorem dX6_init_167 : decode cX6_init 167 = .ok (.sipush 605, 3) := k_17 zcX6_init rfl rfl rfl
theorem dX6_init_170 : decode cX6_init 170 = .ok (.newarray .int, 2) := k_188 zcX6_init rfl rfl rfl
theorem dX6_init_172 : decode cX6_init 172 = .ok (.putfield 70, 3) := k_181 zcX6_init rfl rfl rfl
theorem dX6_init_175 : decode cX6_init 175 = .ok (.aload_n 0, 1) := k_42 zcX6_init rfl rfl
theorem dX6_init_176 : decode cX6_init 176 = .ok (.sipush 605, 3) := k_17 zcX6_init rfl rfl rfl
theorem dX6_init_179 : decode cX6_init 179 = .ok (.newarray .int, 2) := k_188 zcX6_init rfl rfl rfl
theorem dX6_init_181 : decode cX6_init 181 = .ok (.putfield 73, 3) := k_181 zcX6_init rfl rfl rfl
theorem dX6_init_184 : decode cX6_init 184 = .ok (.iconst 0, 1) := k_3 zcX6_init rfl rfl
theorem dX6_init_185 : decode cX6_init 185 = .ok (.istore_n 1, 1) := k_60 zcX6_init rfl rfl
theorem dX6_init_186 : decode cX6_init 186 = .ok (.iload_n 1, 1) := k_27 zcX6_init rfl rfl
theorem dX6_init_187 : decode cX6_init 187 = .ok (.bipush 8, 2) := k_16 zcX6_init rfl rfl rfl
theorem dX6_init_189 : decode cX6_init 189 = .ok (.if_icmp .ge 18, 3) := k_162 zcX6_init rfl rfl rfl
theorem dX6_init_192 : decode cX6_init 192 = .ok (.aload_n 0, 1) := k_42 zcX6_init rfl rfl
theorem dX6_init_193 : decode cX6_init 193 = .ok (.getfield 25, 3) := k_180 zcX6_init rfl rfl rfl
theorem dX6_init_196 : decode cX6_init 196 = .ok (.iload_n 1, 1) := k_27 zcX6_init rfl rfl
theorem dX6_init_197 : decode cX6_init 197 = .ok (.sipush 228, 3) := k_17 zcX6_init rfl rfl rfl
theorem dX6_init_200 : decode cX6_init 200 = .ok (.iastore, 1) := k_79 zcX6_init rfl rfl
theorem dX6_init_201 : decode cX6_init 201 = .ok (.iinc 1 1, 3) := k_132 zcX6_init rfl rfl rfl rfl
theorem dX6_init_204 : decode cX6_init 204 = .ok (.goto (-18), 3) := k_167 zcX6_init rfl rfl rfl
theorem dX6_init_207 : decode cX6_init 207 = .ok (.iconst 0, 1) := k_3 zcX6_init rfl rfl
theorem dX6_init_208 : decode cX6_init 208 = .ok (.istore_n 1, 1) := k_60 zcX6_init rfl rfl
theorem dX6_init_209 : decode cX6_init 209 = .ok (.iload_n 1, 1) := k_27 zcX6_init rfl rfl
theorem dX6_init_210 : decode cX6_init 210 = .ok (.bipush 8, 2) := k_16 zcX6_init rfl rfl rfl
theorem dX6_init_212 : decode cX6_init 212 = .ok (.if_icmp .ge 16, 3) := k_162 zcX6_init rfl rfl rfl
theorem dX6_init_215 : decode cX6_init 215 = .ok (.aload_n 0, 1) := k_42 zcX6_init rfl rfl
theorem dX6_init_216 : decode cX6_init 216 = .ok (.getfield 34, 3) := k_180 zcX6_init rfl rfl rfl
theorem dX6_init_219 : decode cX6_init 219 = .ok (.iload_n 1, 1) := k_27 zcX6_init rfl rfl
theorem dX6_init_220 : decode cX6_init 220 = .ok (.iconst (-1), 1) := k_2 zcX6_init rfl rfl
theorem dX6_init_221 : decode cX6_init 221 = .ok (.iastore, 1) := k_79 zcX6_init rfl rfl
theorem dX6_init_222 : decode cX6_init 222 = .ok (.iinc 1 1, 3) := k_132 zcX6_init rfl rfl rfl rfl
theorem dX6_init_225 : decode cX6_init 225 = .ok (.goto (-16), 3) := k_167 zcX6_init rfl rfl rfl
theorem dX6_init_228 : decode cX6_init 228 = .ok (.iconst 0, 1) := k_3 zcX6_init rfl rfl
theorem dX6_init_229 : decode cX6_init 229 = .ok (.istore_n 1, 1) := k_60 zcX6_init rfl rfl
theorem dX6_init_230 : decode cX6_init 230 = .ok (.iload_n 1, 1) := k_27 zcX6_init rfl rfl
theorem dX6_init_231 : decode cX6_init 231 = .ok (.iconst 4, 1) := k_7 zcX6_init rfl rfl
theorem dX6_init_232 : decode cX6_init 232 = .ok (.if_icmp .ge 16, 3) := k_162 zcX6_init rfl rfl rfl
theorem dX6_init_235 : decode cX6_init 235 = .ok (.aload_n 0, 1) := k_42 zcX6_init rfl rfl
theorem dX6_init_236 : decode cX6_init 236 = .ok (.getfield 52, 3) := k_180 zcX6_init rfl rfl rfl
theorem dX6_init_239 : decode cX6_init 239 = .ok (.iload_n 1, 1) := k_27 zcX6_init rfl rfl
theorem dX6_init_240 : decode cX6_init 240 = .ok (.iconst (-1), 1) := k_2 zcX6_init rfl rfl
theorem dX6_init_241 : decode cX6_init 241 = .ok (.iastore, 1) := k_79 zcX6_init rfl rfl
theorem dX6_init_242 : decode cX6_init 242 = .ok (.iinc 1 1, 3) := k_132 zcX6_init rfl rfl rfl rfl
theorem dX6_init_245 : decode cX6_init 245 = .ok (.goto (-15), 3) := k_167 zcX6_init rfl rfl rfl
theorem dX6_init_248 : decode cX6_init 248 = .ok (.return_, 1) := k_177 zcX6_init rfl rfl
theorem dX6_isIn_0 : decode cX6_isIn 0 = .ok (.iload_n 0, 1) := k_26 zcX6_isIn rfl rfl
theorem dX6_isIn_1 : decode cX6_isIn 1 = .ok (.iload_n 1, 1) := k_27 zcX6_isIn rfl rfl
theorem dX6_isIn_2 : decode cX6_isIn 2 = .ok (.if_icmp .lt 12, 3) := k_161 zcX6_isIn rfl rfl rfl
theorem dX6_isIn_5 : decode cX6_isIn 5 = .ok (.iload_n 0, 1) := k_26 zcX6_isIn rfl rfl
theorem dX6_isIn_6 : decode cX6_isIn 6 = .ok (.iload_n 2, 1) := k_28 zcX6_isIn rfl rfl
theorem dX6_isIn_7 : decode cX6_isIn 7 = .ok (.if_icmp .gt 7, 3) := k_163 zcX6_isIn rfl rfl rfl
theorem dX6_isIn_10 : decode cX6_isIn 10 = .ok (.iconst 1, 1) := k_4 zcX6_isIn rfl rfl
theorem dX6_isIn_11 : decode cX6_isIn 11 = .ok (.goto 4, 3) := k_167 zcX6_isIn rfl rfl rfl
theorem dX6_isIn_14 : decode cX6_isIn 14 = .ok (.iconst 0, 1) := k_3 zcX6_isIn rfl rfl
theorem dX6_isIn_15 : decode cX6_isIn 15 = .ok (.ireturn, 1) := k_172 zcX6_isIn rfl rfl
theorem dX6_isLane_0 : decode cX6_isLane 0 = .ok (.iload_n 1, 1) := k_27 zcX6_isLane rfl rfl
theorem dX6_isLane_1 : decode cX6_isLane 1 = .ok (.iconst 0, 1) := k_3 zcX6_isLane rfl rfl
theorem dX6_isLane_2 : decode cX6_isLane 2 = .ok (.iconst 3, 1) := k_6 zcX6_isLane rfl rfl
theorem dX6_isLane_3 : decode cX6_isLane 3 = .ok (.invokestatic 76, 3) := k_184 zcX6_isLane rfl rfl rfl
theorem dX6_isLane_6 : decode cX6_isLane 6 = .ok (.ifCond .eq 22, 3) := k_153 zcX6_isLane rfl rfl rfl
theorem dX6_isLane_9 : decode cX6_isLane 9 = .ok (.aload_n 0, 1) := k_42 zcX6_isLane rfl rfl
theorem dX6_isLane_10 : decode cX6_isLane 10 = .ok (.getfield 7, 3) := k_180 zcX6_isLane rfl rfl rfl
theorem dX6_isLane_13 : decode cX6_isLane 13 = .ok (.bipush 22, 2) := k_16 zcX6_isLane rfl rfl rfl
theorem dX6_isLane_15 : decode cX6_isLane 15 = .ok (.iload_n 1, 1) := k_27 zcX6_isLane rfl rfl
theorem dX6_isLane_16 : decode cX6_isLane 16 = .ok (.imul, 1) := k_104 zcX6_isLane rfl rfl
theorem dX6_isLane_17 : decode cX6_isLane 17 = .ok (.iconst 0, 1) := k_3 zcX6_isLane rfl rfl
theorem dX6_isLane_18 : decode cX6_isLane 18 = .ok (.iadd, 1) := k_96 zcX6_isLane rfl rfl
theorem dX6_isLane_19 : decode cX6_isLane 19 = .ok (.iaload, 1) := k_46 zcX6_isLane rfl rfl
theorem dX6_isLane_20 : decode cX6_isLane 20 = .ok (.iconst 1, 1) := k_4 zcX6_isLane rfl rfl
theorem dX6_isLane_21 : decode cX6_isLane 21 = .ok (.if_icmp .ne 7, 3) := k_160 zcX6_isLane rfl rfl rfl
theorem dX6_isLane_24 : decode cX6_isLane 24 = .ok (.iconst 1, 1) := k_4 zcX6_isLane rfl rfl
theorem dX6_isLane_25 : decode cX6_isLane 25 = .ok (.goto 4, 3) := k_167 zcX6_isLane rfl rfl rfl
theorem dX6_isLane_28 : decode cX6_isLane 28 = .ok (.iconst 0, 1) := k_3 zcX6_isLane rfl rfl
theorem dX6_isLane_29 : decode cX6_isLane 29 = .ok (.ireturn, 1) := k_172 zcX6_isLane rfl rfl
theorem dX6_of_0 : decode cX6_of 0 = .ok (.aload_n 0, 1) := k_42 zcX6_of rfl rfl
theorem dX6_of_1 : decode cX6_of 1 = .ok (.getfield 7, 3) := k_180 zcX6_of rfl rfl rfl
theorem dX6_of_4 : decode cX6_of 4 = .ok (.bipush 22, 2) := k_16 zcX6_of rfl rfl rfl
theorem dX6_of_6 : decode cX6_of 6 = .ok (.iload_n 1, 1) := k_27 zcX6_of rfl rfl
theorem dX6_of_7 : decode cX6_of 7 = .ok (.imul, 1) := k_104 zcX6_of rfl rfl
theorem dX6_of_8 : decode cX6_of 8 = .ok (.iload_n 2, 1) := k_28 zcX6_of rfl rfl
theorem dX6_of_9 : decode cX6_of 9 = .ok (.iadd, 1) := k_96 zcX6_of rfl rfl
theorem dX6_of_10 : decode cX6_of 10 = .ok (.iaload, 1) := k_46 zcX6_of rfl rfl
theorem dX6_of_11 : decode cX6_of 11 = .ok (.ireturn, 1) := k_172 zcX6_of rfl rfl
theorem dX6_set_0 : decode cX6_set 0 = .ok (.aload_n 0, 1) := k_42 zcX6_set rfl rfl
theorem dX6_set_1 : decode cX6_set 1 = .ok (.getfield 7, 3) := k_180 zcX6_set rfl rfl rfl
theorem dX6_set_4 : decode cX6_set 4 = .ok (.bipush 22, 2) := k_16 zcX6_set rfl rfl rfl
theorem dX6_set_6 : decode cX6_set 6 = .ok (.iload_n 1, 1) := k_27 zcX6_set rfl rfl
theorem dX6_set_7 : decode cX6_set 7 = .ok (.imul, 1) := k_104 zcX6_set rfl rfl
theorem dX6_set_8 : decode cX6_set 8 = .ok (.iload_n 2, 1) := k_28 zcX6_set rfl rfl
theorem dX6_set_9 : decode cX6_set 9 = .ok (.iadd, 1) := k_96 zcX6_set rfl rfl
theorem dX6_set_10 : decode cX6_set 10 = .ok (.iload_n 3, 1) := k_29 zcX6_set rfl rfl
theorem dX6_set_11 : decode cX6_set 11 = .ok (.iastore, 1) := k_79 zcX6_set rfl rfl
theorem dX6_set_12 : decode cX6_set 12 = .ok (.return_, 1) := k_177 zcX6_set rfl rfl
theorem dX6_more_0 : decode cX6_more 0 = .ok (.aload_n 0, 1) := k_42 zcX6_more rfl rfl
theorem dX6_more_1 : decode cX6_more 1 = .ok (.getfield 7, 3) := k_180 zcX6_more rfl rfl rfl
theorem dX6_more_4 : decode cX6_more 4 = .ok (.bipush 22, 2) := k_16 zcX6_more rfl rfl rfl
theorem dX6_more_6 : decode cX6_more 6 = .ok (.iload_n 1, 1) := k_27 zcX6_more rfl rfl
theorem dX6_more_7 : decode cX6_more 7 = .ok (.imul, 1) := k_104 zcX6_more rfl rfl
theorem dX6_more_8 : decode cX6_more 8 = .ok (.iload_n 2, 1) := k_28 zcX6_more rfl rfl
theorem dX6_more_9 : decode cX6_more 9 = .ok (.iadd, 1) := k_96 zcX6_more rfl rfl
theorem dX6_more_10 : decode cX6_more 10 = .ok (.dup2, 1) := k_92 zcX6_more rfl rfl
theorem dX6_more_11 : decode cX6_more 11 = .ok (.iaload, 1) := k_46 zcX6_more rfl rfl
theorem dX6_more_12 : decode cX6_more 12 = .ok (.iload_n 3, 1) := k_29 zcX6_more rfl rfl
theorem dX6_more_13 : decode cX6_more 13 = .ok (.iadd, 1) := k_96 zcX6_more rfl rfl
theorem dX6_more_14 : decode cX6_more 14 = .ok (.iastore, 1) := k_79 zcX6_more rfl rfl
theorem dX6_more_15 : decode cX6_more 15 = .ok (.return_, 1) := k_177 zcX6_more rfl rfl
theorem dX6_heldOf_0 : decode cX6_heldOf 0 = .ok (.aload_n 0, 1) := k_42 zcX6_heldOf rfl rfl
theorem dX6_heldOf_1 : decode cX6_heldOf 1 = .ok (.iload_n 1, 1) := k_27 zcX6_heldOf rfl rfl
theorem dX6_heldOf_2 : decode cX6_heldOf 2 = .ok (.iconst 5, 1) := k_8 zcX6_heldOf rfl rfl
theorem dX6_heldOf_3 : decode cX6_heldOf 3 = .ok (.invokevirtual 80, 3) := k_182 zcX6_heldOf rfl rfl rfl
theorem dX6_heldOf_6 : decode cX6_heldOf 6 = .ok (.ireturn, 1) := k_172 zcX6_heldOf rfl rfl
theorem dX6_isUsed_0 : decode cX6_isUsed 0 = .ok (.iconst 0, 1) := k_3 zcX6_isUsed rfl rfl
theorem dX6_isUsed_1 : decode cX6_isUsed 1 = .ok (.istore_n 2, 1) := k_61 zcX6_isUsed rfl rfl
theorem dX6_isUsed_2 : decode cX6_isUsed 2 = .ok (.iload_n 2, 1) := k_28 zcX6_isUsed rfl rfl
theorem dX6_isUsed_3 : decode cX6_isUsed 3 = .ok (.bipush 7, 2) := k_16 zcX6_isUsed rfl rfl rfl
theorem dX6_isUsed_5 : decode cX6_isUsed 5 = .ok (.if_icmp .ge 31, 3) := k_162 zcX6_isUsed rfl rfl rfl
theorem dX6_isUsed_8 : decode cX6_isUsed 8 = .ok (.aload_n 0, 1) := k_42 zcX6_isUsed rfl rfl
theorem dX6_isUsed_9 : decode cX6_isUsed 9 = .ok (.iload_n 2, 1) := k_28 zcX6_isUsed rfl rfl
theorem dX6_isUsed_10 : decode cX6_isUsed 10 = .ok (.iconst 0, 1) := k_3 zcX6_isUsed rfl rfl
theorem dX6_isUsed_11 : decode cX6_isUsed 11 = .ok (.invokevirtual 80, 3) := k_182 zcX6_isUsed rfl rfl rfl
theorem dX6_isUsed_14 : decode cX6_isUsed 14 = .ok (.iconst 1, 1) := k_4 zcX6_isUsed rfl rfl
theorem dX6_isUsed_15 : decode cX6_isUsed 15 = .ok (.if_icmp .ne 15, 3) := k_160 zcX6_isUsed rfl rfl rfl
theorem dX6_isUsed_18 : decode cX6_isUsed 18 = .ok (.aload_n 0, 1) := k_42 zcX6_isUsed rfl rfl
theorem dX6_isUsed_19 : decode cX6_isUsed 19 = .ok (.iload_n 2, 1) := k_28 zcX6_isUsed rfl rfl
theorem dX6_isUsed_20 : decode cX6_isUsed 20 = .ok (.iconst 1, 1) := k_4 zcX6_isUsed rfl rfl
theorem dX6_isUsed_21 : decode cX6_isUsed 21 = .ok (.invokevirtual 80, 3) := k_182 zcX6_isUsed rfl rfl rfl
theorem dX6_isUsed_24 : decode cX6_isUsed 24 = .ok (.iload_n 1, 1) := k_27 zcX6_isUsed rfl rfl
theorem dX6_isUsed_25 : decode cX6_isUsed 25 = .ok (.if_icmp .ne 5, 3) := k_160 zcX6_isUsed rfl rfl rfl
theorem dX6_isUsed_28 : decode cX6_isUsed 28 = .ok (.iconst 1, 1) := k_4 zcX6_isUsed rfl rfl
theorem dX6_isUsed_29 : decode cX6_isUsed 29 = .ok (.ireturn, 1) := k_172 zcX6_isUsed rfl rfl
theorem dX6_isUsed_30 : decode cX6_isUsed 30 = .ok (.iinc 2 1, 3) := k_132 zcX6_isUsed rfl rfl rfl rfl
theorem dX6_isUsed_33 : decode cX6_isUsed 33 = .ok (.goto (-31), 3) := k_167 zcX6_isUsed rfl rfl rfl
theorem dX6_isUsed_36 : decode cX6_isUsed 36 = .ok (.iconst 0, 1) := k_3 zcX6_isUsed rfl rfl
theorem dX6_isUsed_37 : decode cX6_isUsed 37 = .ok (.ireturn, 1) := k_172 zcX6_isUsed rfl rfl
theorem dX6_table_0 : decode cX6_table 0 = .ok (.iload_n 1, 1) := k_27 zcX6_table rfl rfl
theorem dX6_table_1 : decode cX6_table 1 = .ok (.iconst 0, 1) := k_3 zcX6_table rfl rfl
theorem dX6_table_2 : decode cX6_table 2 = .ok (.bipush 15, 2) := k_16 zcX6_table rfl rfl rfl
theorem dX6_table_4 : decode cX6_table 4 = .ok (.invokestatic 76, 3) := k_184 zcX6_table rfl rfl rfl
theorem dX6_table_7 : decode cX6_table 7 = .ok (.ifCond .eq 21, 3) := k_153 zcX6_table rfl rfl rfl
theorem dX6_table_10 : decode cX6_table 10 = .ok (.iload_n 2, 1) := k_28 zcX6_table rfl rfl
theorem dX6_table_11 : decode cX6_table 11 = .ok (.iconst 0, 1) := k_3 zcX6_table rfl rfl
theorem dX6_table_12 : decode cX6_table 12 = .ok (.iconst 3, 1) := k_6 zcX6_table rfl rfl
theorem dX6_table_13 : decode cX6_table 13 = .ok (.invokestatic 76, 3) := k_184 zcX6_table rfl rfl rfl
theorem dX6_table_16 : decode cX6_table 16 = .ok (.ifCond .eq 12, 3) := k_153 zcX6_table rfl rfl rfl
theorem dX6_table_19 : decode cX6_table 19 = .ok (.aload_n 0, 1) := k_42 zcX6_table rfl rfl
theorem dX6_table_20 : decode cX6_table 20 = .ok (.bipush 9, 2) := k_16 zcX6_table rfl rfl rfl
theorem dX6_table_22 : decode cX6_table 22 = .ok (.invokevirtual 84, 3) := k_182 zcX6_table rfl rfl rfl
theorem dX6_table_25 : decode cX6_table 25 = .ok (.ifCond .eq 5, 3) := k_153 zcX6_table rfl rfl rfl
theorem dX6_table_28 : decode cX6_table 28 = .ok (.iconst 0, 1) := k_3 zcX6_table rfl rfl
theorem dX6_table_29 : decode cX6_table 29 = .ok (.ireturn, 1) := k_172 zcX6_table rfl rfl
theorem dX6_table_30 : decode cX6_table 30 = .ok (.aload_n 0, 1) := k_42 zcX6_table rfl rfl
theorem dX6_table_31 : decode cX6_table 31 = .ok (.getfield 22, 3) := k_180 zcX6_table rfl rfl rfl
theorem dX6_table_34 : decode cX6_table 34 = .ok (.iload_n 1, 1) := k_27 zcX6_table rfl rfl
theorem dX6_table_35 : decode cX6_table 35 = .ok (.iload_n 2, 1) := k_28 zcX6_table rfl rfl
theorem dX6_table_36 : decode cX6_table 36 = .ok (.iastore, 1) := k_79 zcX6_table rfl rfl
theorem dX6_table_37 : decode cX6_table 37 = .ok (.iconst 1, 1) := k_4 zcX6_table rfl rfl
theorem dX6_table_38 : decode cX6_table 38 = .ok (.ireturn, 1) := k_172 zcX6_table rfl rfl
theorem dX6_letter_0 : decode cX6_letter 0 = .ok (.iload_n 1, 1) := k_27 zcX6_letter rfl rfl
theorem dX6_letter_1 : decode cX6_letter 1 = .ok (.iconst 0, 1) := k_3 zcX6_letter rfl rfl
theorem dX6_letter_2 : decode cX6_letter 2 = .ok (.bipush 7, 2) := k_16 zcX6_letter rfl rfl rfl
theorem dX6_letter_4 : decode cX6_letter 4 = .ok (.invokestatic 76, 3) := k_184 zcX6_letter rfl rfl rfl
theorem dX6_letter_7 : decode cX6_letter 7 = .ok (.ifCond .eq 22, 3) := k_153 zcX6_letter rfl rfl rfl
theorem dX6_letter_10 : decode cX6_letter 10 = .ok (.iload_n 2, 1) := k_28 zcX6_letter rfl rfl
theorem dX6_letter_11 : decode cX6_letter 11 = .ok (.iconst 0, 1) := k_3 zcX6_letter rfl rfl
theorem dX6_letter_12 : decode cX6_letter 12 = .ok (.sipush 255, 3) := k_17 zcX6_letter rfl rfl rfl
theorem dX6_letter_15 : decode cX6_letter 15 = .ok (.invokestatic 76, 3) := k_184 zcX6_letter rfl rfl rfl
theorem dX6_letter_18 : decode cX6_letter 18 = .ok (.ifCond .eq 11, 3) := k_153 zcX6_letter rfl rfl rfl
theorem dX6_letter_21 : decode cX6_letter 21 = .ok (.aload_n 0, 1) := k_42 zcX6_letter rfl rfl
theorem dX6_letter_22 : decode cX6_letter 22 = .ok (.iconst 4, 1) := k_7 zcX6_letter rfl rfl
theorem dX6_letter_23 : decode cX6_letter 23 = .ok (.invokevirtual 84, 3) := k_182 zcX6_letter rfl rfl rfl
theorem dX6_letter_26 : decode cX6_letter 26 = .ok (.ifCond .eq 5, 3) := k_153 zcX6_letter rfl rfl rfl
theorem dX6_letter_29 : decode cX6_letter 29 = .ok (.iconst 0, 1) := k_3 zcX6_letter rfl rfl
theorem dX6_letter_30 : decode cX6_letter 30 = .ok (.ireturn, 1) := k_172 zcX6_letter rfl rfl
theorem dX6_letter_31 : decode cX6_letter 31 = .ok (.aload_n 0, 1) := k_42 zcX6_letter rfl rfl
theorem dX6_letter_32 : decode cX6_letter 32 = .ok (.getfield 25, 3) := k_180 zcX6_letter rfl rfl rfl
theorem dX6_letter_35 : decode cX6_letter 35 = .ok (.iload_n 1, 1) := k_27 zcX6_letter rfl rfl
theorem dX6_letter_36 : decode cX6_letter 36 = .ok (.iload_n 2, 1) := k_28 zcX6_letter rfl rfl
theorem dX6_letter_37 : decode cX6_letter 37 = .ok (.iastore, 1) := k_79 zcX6_letter rfl rfl
theorem dX6_letter_38 : decode cX6_letter 38 = .ok (.iconst 1, 1) := k_4 zcX6_letter rfl rfl
theorem dX6_letter_39 : decode cX6_letter 39 = .ok (.ireturn, 1) := k_172 zcX6_letter rfl rfl
theorem dX6_product_0 : decode cX6_product 0 = .ok (.aload_n 0, 1) := k_42 zcX6_product rfl rfl
theorem dX6_product_1 : decode cX6_product 1 = .ok (.getfield 22, 3) := k_180 zcX6_product rfl rfl rfl
theorem dX6_product_4 : decode cX6_product 4 = .ok (.iconst 4, 1) := k_7 zcX6_product rfl rfl
theorem dX6_product_5 : decode cX6_product 5 = .ok (.iload_n 1, 1) := k_27 zcX6_product rfl rfl
theorem dX6_product_6 : decode cX6_product 6 = .ok (.imul, 1) := k_104 zcX6_product rfl rfl
theorem dX6_product_7 : decode cX6_product 7 = .ok (.iload_n 2, 1) := k_28 zcX6_product rfl rfl
theorem dX6_product_8 : decode cX6_product 8 = .ok (.iadd, 1) := k_96 zcX6_product rfl rfl
theorem dX6_product_9 : decode cX6_product 9 = .ok (.iaload, 1) := k_46 zcX6_product rfl rfl
theorem dX6_product_10 : decode cX6_product 10 = .ok (.ireturn, 1) := k_172 zcX6_product rfl rfl
theorem dX6_associates_0 : decode cX6_associates 0 = .ok (.iload_n 1, 1) := k_27 zcX6_associates rfl rfl
theorem dX6_associates_1 : decode cX6_associates 1 = .ok (.bipush 16, 2) := k_16 zcX6_associates rfl rfl rfl
theorem dX6_associates_3 : decode cX6_associates 3 = .ok (.idiv, 1) := k_108 zcX6_associates rfl rfl
theorem dX6_associates_4 : decode cX6_associates 4 = .ok (.istore_n 2, 1) := k_61 zcX6_associates rfl rfl
theorem dX6_associates_5 : decode cX6_associates 5 = .ok (.iload_n 1, 1) := k_27 zcX6_associates rfl rfl
theorem dX6_associates_6 : decode cX6_associates 6 = .ok (.iconst 4, 1) := k_7 zcX6_associates rfl rfl
theorem dX6_associates_7 : decode cX6_associates 7 = .ok (.idiv, 1) := k_108 zcX6_associates rfl rfl
theorem dX6_associates_8 : decode cX6_associates 8 = .ok (.iconst 4, 1) := k_7 zcX6_associates rfl rfl
theorem dX6_associates_9 : decode cX6_associates 9 = .ok (.irem, 1) := k_112 zcX6_associates rfl rfl
theorem dX6_associates_10 : decode cX6_associates 10 = .ok (.istore_n 3, 1) := k_62 zcX6_associates rfl rfl
theorem dX6_associates_11 : decode cX6_associates 11 = .ok (.iload_n 1, 1) := k_27 zcX6_associates rfl rfl
theorem dX6_associates_12 : decode cX6_associates 12 = .ok (.iconst 4, 1) := k_7 zcX6_associates rfl rfl
theorem dX6_associates_13 : decode cX6_associates 13 = .ok (.irem, 1) := k_112 zcX6_associates rfl rfl
theorem dX6_associates_14 : decode cX6_associates 14 = .ok (.istore 4, 2) := k_54 zcX6_associates rfl rfl rfl
theorem dX6_associates_16 : decode cX6_associates 16 = .ok (.aload_n 0, 1) := k_42 zcX6_associates rfl rfl
theorem dX6_associates_17 : decode cX6_associates 17 = .ok (.aload_n 0, 1) := k_42 zcX6_associates rfl rfl
theorem dX6_associates_18 : decode cX6_associates 18 = .ok (.iload_n 2, 1) := k_28 zcX6_associates rfl rfl
theorem dX6_associates_19 : decode cX6_associates 19 = .ok (.iload_n 3, 1) := k_29 zcX6_associates rfl rfl
theorem dX6_associates_20 : decode cX6_associates 20 = .ok (.invokevirtual 88, 3) := k_182 zcX6_associates rfl rfl rfl
theorem dX6_associates_23 : decode cX6_associates 23 = .ok (.iload 4, 2) := k_21 zcX6_associates rfl rfl rfl
theorem dX6_associates_25 : decode cX6_associates 25 = .ok (.invokevirtual 88, 3) := k_182 zcX6_associates rfl rfl rfl
theorem dX6_associates_28 : decode cX6_associates 28 = .ok (.aload_n 0, 1) := k_42 zcX6_associates rfl rfl
theorem dX6_associates_29 : decode cX6_associates 29 = .ok (.iload_n 2, 1) := k_28 zcX6_associates rfl rfl
theorem dX6_associates_30 : decode cX6_associates 30 = .ok (.aload_n 0, 1) := k_42 zcX6_associates rfl rfl
theorem dX6_associates_31 : decode cX6_associates 31 = .ok (.iload_n 3, 1) := k_29 zcX6_associates rfl rfl
theorem dX6_associates_32 : decode cX6_associates 32 = .ok (.iload 4, 2) := k_21 zcX6_associates rfl rfl rfl
theorem dX6_associates_34 : decode cX6_associates 34 = .ok (.invokevirtual 88, 3) := k_182 zcX6_associates rfl rfl rfl
theorem dX6_associates_37 : decode cX6_associates 37 = .ok (.invokevirtual 88, 3) := k_182 zcX6_associates rfl rfl rfl
theorem dX6_associates_40 : decode cX6_associates 40 = .ok (.if_icmp .ne 7, 3) := k_160 zcX6_associates rfl rfl rfl
theorem dX6_associates_43 : decode cX6_associates 43 = .ok (.iconst 1, 1) := k_4 zcX6_associates rfl rfl
theorem dX6_associates_44 : decode cX6_associates 44 = .ok (.goto 4, 3) := k_167 zcX6_associates rfl rfl rfl
theorem dX6_associates_47 : decode cX6_associates 47 = .ok (.iconst 0, 1) := k_3 zcX6_associates rfl rfl
theorem dX6_associates_48 : decode cX6_associates 48 = .ok (.ireturn, 1) := k_172 zcX6_associates rfl rfl
theorem dX6_firstThree_0 : decode cX6_firstThree 0 = .ok (.iconst 0, 1) := k_3 zcX6_firstThree rfl rfl
theorem dX6_firstThree_1 : decode cX6_firstThree 1 = .ok (.istore_n 1, 1) := k_60 zcX6_firstThree rfl rfl
theorem dX6_firstThree_2 : decode cX6_firstThree 2 = .ok (.iload_n 1, 1) := k_27 zcX6_firstThree rfl rfl
theorem dX6_firstThree_3 : decode cX6_firstThree 3 = .ok (.bipush 64, 2) := k_16 zcX6_firstThree rfl rfl rfl
theorem dX6_firstThree_5 : decode cX6_firstThree 5 = .ok (.if_icmp .ge 19, 3) := k_162 zcX6_firstThree rfl rfl rfl
theorem dX6_firstThree_8 : decode cX6_firstThree 8 = .ok (.aload_n 0, 1) := k_42 zcX6_firstThree rfl rfl
theorem dX6_firstThree_9 : decode cX6_firstThree 9 = .ok (.iload_n 1, 1) := k_27 zcX6_firstThree rfl rfl
theorem dX6_firstThree_10 : decode cX6_firstThree 10 = .ok (.invokevirtual 91, 3) := k_182 zcX6_firstThree rfl rfl rfl
theorem dX6_firstThree_13 : decode cX6_firstThree 13 = .ok (.ifCond .ne 5, 3) := k_154 zcX6_firstThree rfl rfl rfl
theorem dX6_firstThree_16 : decode cX6_firstThree 16 = .ok (.iload_n 1, 1) := k_27 zcX6_firstThree rfl rfl
theorem dX6_firstThree_17 : decode cX6_firstThree 17 = .ok (.ireturn, 1) := k_172 zcX6_firstThree rfl rfl
theorem dX6_firstThree_18 : decode cX6_firstThree 18 = .ok (.iinc 1 1, 3) := k_132 zcX6_firstThree rfl rfl rfl rfl
theorem dX6_firstThree_21 : decode cX6_firstThree 21 = .ok (.goto (-19), 3) := k_167 zcX6_firstThree rfl rfl rfl
theorem dX6_firstThree_24 : decode cX6_firstThree 24 = .ok (.iconst (-1), 1) := k_2 zcX6_firstThree rfl rfl
theorem dX6_firstThree_25 : decode cX6_firstThree 25 = .ok (.ireturn, 1) := k_172 zcX6_firstThree rfl rfl
theorem dX6_triple_0 : decode cX6_triple 0 = .ok (.iload_n 1, 1) := k_27 zcX6_triple rfl rfl
theorem dX6_triple_1 : decode cX6_triple 1 = .ok (.iconst 3, 1) := k_6 zcX6_triple rfl rfl
theorem dX6_triple_2 : decode cX6_triple 2 = .ok (.if_icmp .ne 8, 3) := k_160 zcX6_triple rfl rfl rfl
theorem dX6_triple_5 : decode cX6_triple 5 = .ok (.aload_n 0, 1) := k_42 zcX6_triple rfl rfl
theorem dX6_triple_6 : decode cX6_triple 6 = .ok (.invokevirtual 94, 3) := k_182 zcX6_triple rfl rfl rfl
theorem dX6_triple_9 : decode cX6_triple 9 = .ok (.ireturn, 1) := k_172 zcX6_triple rfl rfl
theorem dX6_triple_10 : decode cX6_triple 10 = .ok (.aload_n 0, 1) := k_42 zcX6_triple rfl rfl
theorem dX6_triple_11 : decode cX6_triple 11 = .ok (.invokevirtual 98, 3) := k_182 zcX6_triple rfl rfl rfl
theorem dX6_triple_14 : decode cX6_triple 14 = .ok (.istore_n 2, 1) := k_61 zcX6_triple rfl rfl
theorem dX6_triple_15 : decode cX6_triple 15 = .ok (.iload_n 2, 1) := k_28 zcX6_triple rfl rfl
theorem dX6_triple_16 : decode cX6_triple 16 = .ok (.ifCond .lt 12, 3) := k_155 zcX6_triple rfl rfl rfl
theorem dX6_triple_19 : decode cX6_triple 19 = .ok (.iload_n 1, 1) := k_27 zcX6_triple rfl rfl
theorem dX6_triple_20 : decode cX6_triple 20 = .ok (.iconst 0, 1) := k_3 zcX6_triple rfl rfl
theorem dX6_triple_21 : decode cX6_triple 21 = .ok (.iconst 2, 1) := k_5 zcX6_triple rfl rfl
theorem dX6_triple_22 : decode cX6_triple 22 = .ok (.invokestatic 76, 3) := k_184 zcX6_triple rfl rfl rfl
theorem dX6_triple_25 : decode cX6_triple 25 = .ok (.ifCond .ne 5, 3) := k_154 zcX6_triple rfl rfl rfl
theorem dX6_triple_28 : decode cX6_triple 28 = .ok (.iconst (-1), 1) := k_2 zcX6_triple rfl rfl
theorem dX6_triple_29 : decode cX6_triple 29 = .ok (.ireturn, 1) := k_172 zcX6_triple rfl rfl
theorem dX6_triple_30 : decode cX6_triple 30 = .ok (.iload_n 1, 1) := k_27 zcX6_triple rfl rfl
theorem dX6_triple_31 : decode cX6_triple 31 = .ok (.ifCond .ne 10, 3) := k_154 zcX6_triple rfl rfl rfl
theorem dX6_triple_34 : decode cX6_triple 34 = .ok (.iload_n 2, 1) := k_28 zcX6_triple rfl rfl
theorem dX6_triple_35 : decode cX6_triple 35 = .ok (.bipush 16, 2) := k_16 zcX6_triple rfl rfl rfl
theorem dX6_triple_37 : decode cX6_triple 37 = .ok (.idiv, 1) := k_108 zcX6_triple rfl rfl
theorem dX6_triple_38 : decode cX6_triple 38 = .ok (.goto 19, 3) := k_167 zcX6_triple rfl rfl rfl
theorem dX6_triple_41 : decode cX6_triple 41 = .ok (.iload_n 1, 1) := k_27 zcX6_triple rfl rfl
theorem dX6_triple_42 : decode cX6_triple 42 = .ok (.iconst 1, 1) := k_4 zcX6_triple rfl rfl
theorem dX6_triple_43 : decode cX6_triple 43 = .ok (.if_icmp .ne 11, 3) := k_160 zcX6_triple rfl rfl rfl
theorem dX6_triple_46 : decode cX6_triple 46 = .ok (.iload_n 2, 1) := k_28 zcX6_triple rfl rfl
theorem dX6_triple_47 : decode cX6_triple 47 = .ok (.iconst 4, 1) := k_7 zcX6_triple rfl rfl
theorem dX6_triple_48 : decode cX6_triple 48 = .ok (.idiv, 1) := k_108 zcX6_triple rfl rfl
theorem dX6_triple_49 : decode cX6_triple 49 = .ok (.iconst 4, 1) := k_7 zcX6_triple rfl rfl
theorem dX6_triple_50 : decode cX6_triple 50 = .ok (.irem, 1) := k_112 zcX6_triple rfl rfl
theorem dX6_triple_51 : decode cX6_triple 51 = .ok (.goto 6, 3) := k_167 zcX6_triple rfl rfl rfl
theorem dX6_triple_54 : decode cX6_triple 54 = .ok (.iload_n 2, 1) := k_28 zcX6_triple rfl rfl
theorem dX6_triple_55 : decode cX6_triple 55 = .ok (.iconst 4, 1) := k_7 zcX6_triple rfl rfl
theorem dX6_triple_56 : decode cX6_triple 56 = .ok (.irem, 1) := k_112 zcX6_triple rfl rfl
theorem dX6_triple_57 : decode cX6_triple 57 = .ok (.ireturn, 1) := k_172 zcX6_triple rfl rfl
theorem dX6_countAssociating_0 : decode cX6_countAssociating 0 = .ok (.iconst 0, 1) := k_3 zcX6_countAssociating rfl rfl
theorem dX6_countAssociating_1 : decode cX6_countAssociating 1 = .ok (.istore_n 1, 1) := k_60 zcX6_countAssociating rfl rfl
theorem dX6_countAssociating_2 : decode cX6_countAssociating 2 = .ok (.iconst 0, 1) := k_3 zcX6_countAssociating rfl rfl
theorem dX6_countAssociating_3 : decode cX6_countAssociating 3 = .ok (.istore_n 2, 1) := k_61 zcX6_countAssociating rfl rfl
theorem dX6_countAssociating_4 : decode cX6_countAssociating 4 = .ok (.iload_n 2, 1) := k_28 zcX6_countAssociating rfl rfl
theorem dX6_countAssociating_5 : decode cX6_countAssociating 5 = .ok (.bipush 64, 2) := k_16 zcX6_countAssociating rfl rfl rfl
theorem dX6_countAssociating_7 : decode cX6_countAssociating 7 = .ok (.if_icmp .ge 25, 3) := k_162 zcX6_countAssociating rfl rfl rfl
theorem dX6_countAssociating_10 : decode cX6_countAssociating 10 = .ok (.iload_n 1, 1) := k_27 zcX6_countAssociating rfl rfl
theorem dX6_countAssociating_11 : decode cX6_countAssociating 11 = .ok (.aload_n 0, 1) := k_42 zcX6_countAssociating rfl rfl
theorem dX6_countAssociating_12 : decode cX6_countAssociating 12 = .ok (.iload_n 2, 1) := k_28 zcX6_countAssociating rfl rfl
theorem dX6_countAssociating_13 : decode cX6_countAssociating 13 = .ok (.invokevirtual 91, 3) := k_182 zcX6_countAssociating rfl rfl rfl
theorem dX6_countAssociating_16 : decode cX6_countAssociating 16 = .ok (.ifCond .eq 7, 3) := k_153 zcX6_countAssociating rfl rfl rfl
theorem dX6_countAssociating_19 : decode cX6_countAssociating 19 = .ok (.iconst 1, 1) := k_4 zcX6_countAssociating rfl rfl
theorem dX6_countAssociating_20 : decode cX6_countAssociating 20 = .ok (.goto 4, 3) := k_167 zcX6_countAssociating rfl rfl rfl
theorem dX6_countAssociating_23 : decode cX6_countAssociating 23 = .ok (.iconst 0, 1) := k_3 zcX6_countAssociating rfl rfl
theorem dX6_countAssociating_24 : decode cX6_countAssociating 24 = .ok (.iadd, 1) := k_96 zcX6_countAssociating rfl rfl
theorem dX6_countAssociating_25 : decode cX6_countAssociating 25 = .ok (.istore_n 1, 1) := k_60 zcX6_countAssociating rfl rfl
theorem dX6_countAssociating_26 : decode cX6_countAssociating 26 = .ok (.iinc 2 1, 3) := k_132 zcX6_countAssociating rfl rfl rfl rfl
theorem dX6_countAssociating_29 : decode cX6_countAssociating 29 = .ok (.goto (-25), 3) := k_167 zcX6_countAssociating rfl rfl rfl
theorem dX6_countAssociating_32 : decode cX6_countAssociating 32 = .ok (.iload_n 1, 1) := k_27 zcX6_countAssociating rfl rfl
theorem dX6_countAssociating_33 : decode cX6_countAssociating 33 = .ok (.ireturn, 1) := k_172 zcX6_countAssociating rfl rfl
theorem dX6_isSuch_0 : decode cX6_isSuch 0 = .ok (.iconst 0, 1) := k_3 zcX6_isSuch rfl rfl
theorem dX6_isSuch_1 : decode cX6_isSuch 1 = .ok (.istore_n 3, 1) := k_62 zcX6_isSuch rfl rfl
theorem dX6_isSuch_2 : decode cX6_isSuch 2 = .ok (.iload_n 3, 1) := k_29 zcX6_isSuch rfl rfl
theorem dX6_isSuch_3 : decode cX6_isSuch 3 = .ok (.iconst 4, 1) := k_7 zcX6_isSuch rfl rfl
theorem dX6_isSuch_4 : decode cX6_isSuch 4 = .ok (.if_icmp .ge 44, 3) := k_162 zcX6_isSuch rfl rfl rfl
theorem dX6_isSuch_7 : decode cX6_isSuch 7 = .ok (.iload_n 2, 1) := k_28 zcX6_isSuch rfl rfl
theorem dX6_isSuch_8 : decode cX6_isSuch 8 = .ok (.ifCond .ne 7, 3) := k_154 zcX6_isSuch rfl rfl rfl
theorem dX6_isSuch_11 : decode cX6_isSuch 11 = .ok (.iload_n 3, 1) := k_29 zcX6_isSuch rfl rfl
theorem dX6_isSuch_12 : decode cX6_isSuch 12 = .ok (.goto 4, 3) := k_167 zcX6_isSuch rfl rfl rfl
theorem dX6_isSuch_15 : decode cX6_isSuch 15 = .ok (.iload_n 1, 1) := k_27 zcX6_isSuch rfl rfl
theorem dX6_isSuch_16 : decode cX6_isSuch 16 = .ok (.istore 4, 2) := k_54 zcX6_isSuch rfl rfl rfl
theorem dX6_isSuch_18 : decode cX6_isSuch 18 = .ok (.aload_n 0, 1) := k_42 zcX6_isSuch rfl rfl
theorem dX6_isSuch_19 : decode cX6_isSuch 19 = .ok (.iload_n 1, 1) := k_27 zcX6_isSuch rfl rfl
theorem dX6_isSuch_20 : decode cX6_isSuch 20 = .ok (.iload_n 3, 1) := k_29 zcX6_isSuch rfl rfl
theorem dX6_isSuch_21 : decode cX6_isSuch 21 = .ok (.invokevirtual 88, 3) := k_182 zcX6_isSuch rfl rfl rfl
theorem dX6_isSuch_24 : decode cX6_isSuch 24 = .ok (.iload 4, 2) := k_21 zcX6_isSuch rfl rfl rfl
theorem dX6_isSuch_26 : decode cX6_isSuch 26 = .ok (.if_icmp .ne 14, 3) := k_160 zcX6_isSuch rfl rfl rfl
theorem dX6_isSuch_29 : decode cX6_isSuch 29 = .ok (.aload_n 0, 1) := k_42 zcX6_isSuch rfl rfl
theorem dX6_isSuch_30 : decode cX6_isSuch 30 = .ok (.iload_n 3, 1) := k_29 zcX6_isSuch rfl rfl
theorem dX6_isSuch_31 : decode cX6_isSuch 31 = .ok (.iload_n 1, 1) := k_27 zcX6_isSuch rfl rfl
theorem dX6_isSuch_32 : decode cX6_isSuch 32 = .ok (.invokevirtual 88, 3) := k_182 zcX6_isSuch rfl rfl rfl
theorem dX6_isSuch_35 : decode cX6_isSuch 35 = .ok (.iload 4, 2) := k_21 zcX6_isSuch rfl rfl rfl
theorem dX6_isSuch_37 : decode cX6_isSuch 37 = .ok (.if_icmp .eq 5, 3) := k_159 zcX6_isSuch rfl rfl rfl
theorem dX6_isSuch_40 : decode cX6_isSuch 40 = .ok (.iconst 0, 1) := k_3 zcX6_isSuch rfl rfl
theorem dX6_isSuch_41 : decode cX6_isSuch 41 = .ok (.ireturn, 1) := k_172 zcX6_isSuch rfl rfl
theorem dX6_isSuch_42 : decode cX6_isSuch 42 = .ok (.iinc 3 1, 3) := k_132 zcX6_isSuch rfl rfl rfl rfl
theorem dX6_isSuch_45 : decode cX6_isSuch 45 = .ok (.goto (-43), 3) := k_167 zcX6_isSuch rfl rfl rfl
theorem dX6_isSuch_48 : decode cX6_isSuch 48 = .ok (.iconst 1, 1) := k_4 zcX6_isSuch rfl rfl
theorem dX6_isSuch_49 : decode cX6_isSuch 49 = .ok (.ireturn, 1) := k_172 zcX6_isSuch rfl rfl
theorem dX6_element_0 : decode cX6_element 0 = .ok (.iload_n 1, 1) := k_27 zcX6_element rfl rfl
theorem dX6_element_1 : decode cX6_element 1 = .ok (.iconst 0, 1) := k_3 zcX6_element rfl rfl
theorem dX6_element_2 : decode cX6_element 2 = .ok (.iconst 1, 1) := k_4 zcX6_element rfl rfl
theorem dX6_element_3 : decode cX6_element 3 = .ok (.invokestatic 76, 3) := k_184 zcX6_element rfl rfl rfl
theorem dX6_element_6 : decode cX6_element 6 = .ok (.ifCond .eq 29, 3) := k_153 zcX6_element rfl rfl rfl
theorem dX6_element_9 : decode cX6_element 9 = .ok (.iconst 0, 1) := k_3 zcX6_element rfl rfl
theorem dX6_element_10 : decode cX6_element 10 = .ok (.istore_n 2, 1) := k_61 zcX6_element rfl rfl
theorem dX6_element_11 : decode cX6_element 11 = .ok (.iload_n 2, 1) := k_28 zcX6_element rfl rfl
theorem dX6_element_12 : decode cX6_element 12 = .ok (.iconst 4, 1) := k_7 zcX6_element rfl rfl
theorem dX6_element_13 : decode cX6_element 13 = .ok (.if_icmp .ge 20, 3) := k_162 zcX6_element rfl rfl rfl
theorem dX6_element_16 : decode cX6_element 16 = .ok (.aload_n 0, 1) := k_42 zcX6_element rfl rfl
theorem dX6_element_17 : decode cX6_element 17 = .ok (.iload_n 2, 1) := k_28 zcX6_element rfl rfl
theorem dX6_element_18 : decode cX6_element 18 = .ok (.iload_n 1, 1) := k_27 zcX6_element rfl rfl
theorem dX6_element_19 : decode cX6_element 19 = .ok (.invokevirtual 101, 3) := k_182 zcX6_element rfl rfl rfl
theorem dX6_element_22 : decode cX6_element 22 = .ok (.ifCond .eq 5, 3) := k_153 zcX6_element rfl rfl rfl
theorem dX6_element_25 : decode cX6_element 25 = .ok (.iload_n 2, 1) := k_28 zcX6_element rfl rfl
theorem dX6_element_26 : decode cX6_element 26 = .ok (.ireturn, 1) := k_172 zcX6_element rfl rfl
theorem dX6_element_27 : decode cX6_element 27 = .ok (.iinc 2 1, 3) := k_132 zcX6_element rfl rfl rfl rfl
theorem dX6_element_30 : decode cX6_element 30 = .ok (.goto (-19), 3) := k_167 zcX6_element rfl rfl rfl
theorem dX6_element_33 : decode cX6_element 33 = .ok (.iconst (-1), 1) := k_2 zcX6_element rfl rfl
theorem dX6_element_34 : decode cX6_element 34 = .ok (.ireturn, 1) := k_172 zcX6_element rfl rfl
theorem dX6_element_35 : decode cX6_element 35 = .ok (.iconst 0, 1) := k_3 zcX6_element rfl rfl
theorem dX6_element_36 : decode cX6_element 36 = .ok (.istore_n 2, 1) := k_61 zcX6_element rfl rfl
theorem dX6_element_37 : decode cX6_element 37 = .ok (.iload_n 1, 1) := k_27 zcX6_element rfl rfl
theorem dX6_element_38 : decode cX6_element 38 = .ok (.iconst 2, 1) := k_5 zcX6_element rfl rfl
theorem dX6_element_39 : decode cX6_element 39 = .ok (.if_icmp .ne 36, 3) := k_160 zcX6_element rfl rfl rfl
theorem dX6_element_42 : decode cX6_element 42 = .ok (.iconst 0, 1) := k_3 zcX6_element rfl rfl
theorem dX6_element_43 : decode cX6_element 43 = .ok (.istore_n 3, 1) := k_62 zcX6_element rfl rfl
theorem dX6_element_44 : decode cX6_element 44 = .ok (.iload_n 3, 1) := k_29 zcX6_element rfl rfl
theorem dX6_element_45 : decode cX6_element 45 = .ok (.iconst 4, 1) := k_7 zcX6_element rfl rfl
theorem dX6_element_46 : decode cX6_element 46 = .ok (.if_icmp .ge 27, 3) := k_162 zcX6_element rfl rfl rfl
theorem dX6_element_49 : decode cX6_element 49 = .ok (.iload_n 2, 1) := k_28 zcX6_element rfl rfl
theorem dX6_element_50 : decode cX6_element 50 = .ok (.aload_n 0, 1) := k_42 zcX6_element rfl rfl
theorem dX6_element_51 : decode cX6_element 51 = .ok (.iload_n 3, 1) := k_29 zcX6_element rfl rfl
theorem dX6_element_52 : decode cX6_element 52 = .ok (.iload_n 3, 1) := k_29 zcX6_element rfl rfl
theorem dX6_element_53 : decode cX6_element 53 = .ok (.invokevirtual 88, 3) := k_182 zcX6_element rfl rfl rfl
theorem dX6_element_56 : decode cX6_element 56 = .ok (.iload_n 3, 1) := k_29 zcX6_element rfl rfl
theorem dX6_element_57 : decode cX6_element 57 = .ok (.if_icmp .ne 7, 3) := k_160 zcX6_element rfl rfl rfl
theorem dX6_element_60 : decode cX6_element 60 = .ok (.iconst 1, 1) := k_4 zcX6_element rfl rfl
theorem dX6_element_61 : decode cX6_element 61 = .ok (.goto 4, 3) := k_167 zcX6_element rfl rfl rfl
theorem dX6_element_64 : decode cX6_element 64 = .ok (.iconst 0, 1) := k_3 zcX6_element rfl rfl
theorem dX6_element_65 : decode cX6_element 65 = .ok (.iadd, 1) := k_96 zcX6_element rfl rfl
theorem dX6_element_66 : decode cX6_element 66 = .ok (.istore_n 2, 1) := k_61 zcX6_element rfl rfl
theorem dX6_element_67 : decode cX6_element 67 = .ok (.iinc 3 1, 3) := k_132 zcX6_element rfl rfl rfl rfl
theorem dX6_element_70 : decode cX6_element 70 = .ok (.goto (-26), 3) := k_167 zcX6_element rfl rfl rfl
theorem dX6_element_73 : decode cX6_element 73 = .ok (.iload_n 2, 1) := k_28 zcX6_element rfl rfl
theorem dX6_element_74 : decode cX6_element 74 = .ok (.ireturn, 1) := k_172 zcX6_element rfl rfl
theorem dX6_element_75 : decode cX6_element 75 = .ok (.iload_n 1, 1) := k_27 zcX6_element rfl rfl
theorem dX6_element_76 : decode cX6_element 76 = .ok (.iconst 3, 1) := k_6 zcX6_element rfl rfl
theorem dX6_element_77 : decode cX6_element 77 = .ok (.if_icmp .eq 5, 3) := k_159 zcX6_element rfl rfl rfl
theorem dX6_element_80 : decode cX6_element 80 = .ok (.iconst (-1), 1) := k_2 zcX6_element rfl rfl
theorem dX6_element_81 : decode cX6_element 81 = .ok (.ireturn, 1) := k_172 zcX6_element rfl rfl
theorem dX6_element_82 : decode cX6_element 82 = .ok (.iconst 0, 1) := k_3 zcX6_element rfl rfl
theorem dX6_element_83 : decode cX6_element 83 = .ok (.istore_n 3, 1) := k_62 zcX6_element rfl rfl
theorem dX6_element_84 : decode cX6_element 84 = .ok (.iload_n 3, 1) := k_29 zcX6_element rfl rfl
theorem dX6_element_85 : decode cX6_element 85 = .ok (.bipush 16, 2) := k_16 zcX6_element rfl rfl rfl
theorem dX6_element_87 : decode cX6_element 87 = .ok (.if_icmp .ge 40, 3) := k_162 zcX6_element rfl rfl rfl
theorem dX6_element_90 : decode cX6_element 90 = .ok (.iload_n 2, 1) := k_28 zcX6_element rfl rfl
theorem dX6_element_91 : decode cX6_element 91 = .ok (.aload_n 0, 1) := k_42 zcX6_element rfl rfl
theorem dX6_element_92 : decode cX6_element 92 = .ok (.iload_n 3, 1) := k_29 zcX6_element rfl rfl
theorem dX6_element_93 : decode cX6_element 93 = .ok (.iconst 4, 1) := k_7 zcX6_element rfl rfl
theorem dX6_element_94 : decode cX6_element 94 = .ok (.idiv, 1) := k_108 zcX6_element rfl rfl
theorem dX6_element_95 : decode cX6_element 95 = .ok (.iload_n 3, 1) := k_29 zcX6_element rfl rfl
theorem dX6_element_96 : decode cX6_element 96 = .ok (.iconst 4, 1) := k_7 zcX6_element rfl rfl
theorem dX6_element_97 : decode cX6_element 97 = .ok (.irem, 1) := k_112 zcX6_element rfl rfl
theorem dX6_element_98 : decode cX6_element 98 = .ok (.invokevirtual 88, 3) := k_182 zcX6_element rfl rfl rfl
theorem dX6_element_101 : decode cX6_element 101 = .ok (.aload_n 0, 1) := k_42 zcX6_element rfl rfl
theorem dX6_element_102 : decode cX6_element 102 = .ok (.iload_n 3, 1) := k_29 zcX6_element rfl rfl
theorem dX6_element_103 : decode cX6_element 103 = .ok (.iconst 4, 1) := k_7 zcX6_element rfl rfl
theorem dX6_element_104 : decode cX6_element 104 = .ok (.irem, 1) := k_112 zcX6_element rfl rfl
theorem dX6_element_105 : decode cX6_element 105 = .ok (.iload_n 3, 1) := k_29 zcX6_element rfl rfl
theorem dX6_element_106 : decode cX6_element 106 = .ok (.iconst 4, 1) := k_7 zcX6_element rfl rfl
theorem dX6_element_107 : decode cX6_element 107 = .ok (.idiv, 1) := k_108 zcX6_element rfl rfl
theorem dX6_element_108 : decode cX6_element 108 = .ok (.invokevirtual 88, 3) := k_182 zcX6_element rfl rfl rfl
theorem dX6_element_111 : decode cX6_element 111 = .ok (.if_icmp .ne 7, 3) := k_160 zcX6_element rfl rfl rfl
theorem dX6_element_114 : decode cX6_element 114 = .ok (.iconst 1, 1) := k_4 zcX6_element rfl rfl
theorem dX6_element_115 : decode cX6_element 115 = .ok (.goto 4, 3) := k_167 zcX6_element rfl rfl rfl
theorem dX6_element_118 : decode cX6_element 118 = .ok (.iconst 0, 1) := k_3 zcX6_element rfl rfl
theorem dX6_element_119 : decode cX6_element 119 = .ok (.iadd, 1) := k_96 zcX6_element rfl rfl
theorem dX6_element_120 : decode cX6_element 120 = .ok (.istore_n 2, 1) := k_61 zcX6_element rfl rfl
theorem dX6_element_121 : decode cX6_element 121 = .ok (.iinc 3 1, 3) := k_132 zcX6_element rfl rfl rfl rfl
theorem dX6_element_124 : decode cX6_element 124 = .ok (.goto (-40), 3) := k_167 zcX6_element rfl rfl rfl
theorem dX6_element_127 : decode cX6_element 127 = .ok (.iload_n 2, 1) := k_28 zcX6_element rfl rfl
theorem dX6_element_128 : decode cX6_element 128 = .ok (.ireturn, 1) := k_172 zcX6_element rfl rfl
theorem dX6_clearRow_0 : decode cX6_clearRow 0 = .ok (.aload_n 0, 1) := k_42 zcX6_clearRow rfl rfl
theorem dX6_clearRow_1 : decode cX6_clearRow 1 = .ok (.iconst 0, 1) := k_3 zcX6_clearRow rfl rfl
theorem dX6_clearRow_2 : decode cX6_clearRow 2 = .ok (.putfield 105, 3) := k_181 zcX6_clearRow rfl rfl rfl
theorem dX6_clearRow_5 : decode cX6_clearRow 5 = .ok (.return_, 1) := k_177 zcX6_clearRow rfl rfl
theorem dX6_put_0 : decode cX6_put 0 = .ok (.aload_n 0, 1) := k_42 zcX6_put rfl rfl
theorem dX6_put_1 : decode cX6_put 1 = .ok (.getfield 28, 3) := k_180 zcX6_put rfl rfl rfl
theorem dX6_put_4 : decode cX6_put 4 = .ok (.aload_n 0, 1) := k_42 zcX6_put rfl rfl
theorem dX6_put_5 : decode cX6_put 5 = .ok (.getfield 105, 3) := k_180 zcX6_put rfl rfl rfl
theorem dX6_put_8 : decode cX6_put 8 = .ok (.iload_n 1, 1) := k_27 zcX6_put rfl rfl
theorem dX6_put_9 : decode cX6_put 9 = .ok (.iastore, 1) := k_79 zcX6_put rfl rfl
theorem dX6_put_10 : decode cX6_put 10 = .ok (.aload_n 0, 1) := k_42 zcX6_put rfl rfl
theorem dX6_put_11 : decode cX6_put 11 = .ok (.dup, 1) := k_89 zcX6_put rfl rfl
theorem dX6_put_12 : decode cX6_put 12 = .ok (.getfield 105, 3) := k_180 zcX6_put rfl rfl rfl
theorem dX6_put_15 : decode cX6_put 15 = .ok (.iconst 1, 1) := k_4 zcX6_put rfl rfl
theorem dX6_put_16 : decode cX6_put 16 = .ok (.iadd, 1) := k_96 zcX6_put rfl rfl
theorem dX6_put_17 : decode cX6_put 17 = .ok (.putfield 105, 3) := k_181 zcX6_put rfl rfl rfl
theorem dX6_put_20 : decode cX6_put 20 = .ok (.return_, 1) := k_177 zcX6_put rfl rfl
theorem dX6_putFrom_0 : decode cX6_putFrom 0 = .ok (.iload_n 2, 1) := k_28 zcX6_putFrom rfl rfl
theorem dX6_putFrom_1 : decode cX6_putFrom 1 = .ok (.istore 4, 2) := k_54 zcX6_putFrom rfl rfl rfl
theorem dX6_putFrom_3 : decode cX6_putFrom 3 = .ok (.iload 4, 2) := k_21 zcX6_putFrom rfl rfl rfl
theorem dX6_putFrom_5 : decode cX6_putFrom 5 = .ok (.iload_n 3, 1) := k_29 zcX6_putFrom rfl rfl
theorem dX6_putFrom_6 : decode cX6_putFrom 6 = .ok (.if_icmp .gt 25, 3) := k_163 zcX6_putFrom rfl rfl rfl
theorem dX6_putFrom_9 : decode cX6_putFrom 9 = .ok (.aload_n 0, 1) := k_42 zcX6_putFrom rfl rfl
theorem dX6_putFrom_10 : decode cX6_putFrom 10 = .ok (.aload_n 0, 1) := k_42 zcX6_putFrom rfl rfl
theorem dX6_putFrom_11 : decode cX6_putFrom 11 = .ok (.getfield 16, 3) := k_180 zcX6_putFrom rfl rfl rfl
theorem dX6_putFrom_14 : decode cX6_putFrom 14 = .ok (.bipush 121, 2) := k_16 zcX6_putFrom rfl rfl rfl
theorem dX6_putFrom_16 : decode cX6_putFrom 16 = .ok (.iload_n 1, 1) := k_27 zcX6_putFrom rfl rfl
theorem dX6_putFrom_17 : decode cX6_putFrom 17 = .ok (.imul, 1) := k_104 zcX6_putFrom rfl rfl
theorem dX6_putFrom_18 : decode cX6_putFrom 18 = .ok (.iload 4, 2) := k_21 zcX6_putFrom rfl rfl rfl
theorem dX6_putFrom_20 : decode cX6_putFrom 20 = .ok (.iadd, 1) := k_96 zcX6_putFrom rfl rfl
theorem dX6_putFrom_21 : decode cX6_putFrom 21 = .ok (.iaload, 1) := k_46 zcX6_putFrom rfl rfl
theorem dX6_putFrom_22 : decode cX6_putFrom 22 = .ok (.invokevirtual 109, 3) := k_182 zcX6_putFrom rfl rfl rfl
theorem dX6_putFrom_25 : decode cX6_putFrom 25 = .ok (.iinc 4 1, 3) := k_132 zcX6_putFrom rfl rfl rfl rfl
theorem dX6_putFrom_28 : decode cX6_putFrom 28 = .ok (.goto (-25), 3) := k_167 zcX6_putFrom rfl rfl rfl
theorem dX6_putFrom_31 : decode cX6_putFrom 31 = .ok (.return_, 1) := k_177 zcX6_putFrom rfl rfl
theorem dX6_layAll_0 : decode cX6_layAll 0 = .ok (.aload_n 0, 1) := k_42 zcX6_layAll rfl rfl
theorem dX6_layAll_1 : decode cX6_layAll 1 = .ok (.invokevirtual 113, 3) := k_182 zcX6_layAll rfl rfl rfl
theorem dX6_layAll_4 : decode cX6_layAll 4 = .ok (.aload_n 0, 1) := k_42 zcX6_layAll rfl rfl
theorem dX6_layAll_5 : decode cX6_layAll 5 = .ok (.iload_n 1, 1) := k_27 zcX6_layAll rfl rfl
theorem dX6_layAll_6 : decode cX6_layAll 6 = .ok (.iconst 0, 1) := k_3 zcX6_layAll rfl rfl
theorem dX6_layAll_7 : decode cX6_layAll 7 = .ok (.aload_n 0, 1) := k_42 zcX6_layAll rfl rfl
theorem dX6_layAll_8 : decode cX6_layAll 8 = .ok (.iload_n 1, 1) := k_27 zcX6_layAll rfl rfl
theorem dX6_layAll_9 : decode cX6_layAll 9 = .ok (.invokevirtual 116, 3) := k_182 zcX6_layAll rfl rfl rfl
theorem dX6_layAll_12 : decode cX6_layAll 12 = .ok (.iconst 1, 1) := k_4 zcX6_layAll rfl rfl
theorem dX6_layAll_13 : decode cX6_layAll 13 = .ok (.isub, 1) := k_100 zcX6_layAll rfl rfl
theorem dX6_layAll_14 : decode cX6_layAll 14 = .ok (.invokevirtual 120, 3) := k_182 zcX6_layAll rfl rfl rfl
theorem dX6_layAll_17 : decode cX6_layAll 17 = .ok (.return_, 1) := k_177 zcX6_layAll rfl rfl
theorem dX6_howMany_0 : decode cX6_howMany 0 = .ok (.iload_n 0, 1) := k_26 zcX6_howMany rfl rfl
theorem dX6_howMany_1 : decode cX6_howMany 1 = .ok (.tableswitch 70 0 8 #[51, 53, 55, 57, 59, 61, 63, 66, 68], 51) := by decide +kernel
theorem dX6_howMany_52 : decode cX6_howMany 52 = .ok (.iconst 4, 1) := k_7 zcX6_howMany rfl rfl
theorem dX6_howMany_53 : decode cX6_howMany 53 = .ok (.ireturn, 1) := k_172 zcX6_howMany rfl rfl
theorem dX6_howMany_54 : decode cX6_howMany 54 = .ok (.iconst 2, 1) := k_5 zcX6_howMany rfl rfl
theorem dX6_howMany_55 : decode cX6_howMany 55 = .ok (.ireturn, 1) := k_172 zcX6_howMany rfl rfl
theorem dX6_howMany_56 : decode cX6_howMany 56 = .ok (.iconst 2, 1) := k_5 zcX6_howMany rfl rfl
theorem dX6_howMany_57 : decode cX6_howMany 57 = .ok (.ireturn, 1) := k_172 zcX6_howMany rfl rfl
theorem dX6_howMany_58 : decode cX6_howMany 58 = .ok (.iconst 4, 1) := k_7 zcX6_howMany rfl rfl
theorem dX6_howMany_59 : decode cX6_howMany 59 = .ok (.ireturn, 1) := k_172 zcX6_howMany rfl rfl
theorem dX6_howMany_60 : decode cX6_howMany 60 = .ok (.iconst 5, 1) := k_8 zcX6_howMany rfl rfl
theorem dX6_howMany_61 : decode cX6_howMany 61 = .ok (.ireturn, 1) := k_172 zcX6_howMany rfl rfl
theorem dX6_howMany_62 : decode cX6_howMany 62 = .ok (.iconst 4, 1) := k_7 zcX6_howMany rfl rfl
theorem dX6_howMany_63 : decode cX6_howMany 63 = .ok (.ireturn, 1) := k_172 zcX6_howMany rfl rfl
theorem dX6_howMany_64 : decode cX6_howMany 64 = .ok (.bipush 7, 2) := k_16 zcX6_howMany rfl rfl rfl
theorem dX6_howMany_66 : decode cX6_howMany 66 = .ok (.ireturn, 1) := k_172 zcX6_howMany rfl rfl
theorem dX6_howMany_67 : decode cX6_howMany 67 = .ok (.iconst 5, 1) := k_8 zcX6_howMany rfl rfl
theorem dX6_howMany_68 : decode cX6_howMany 68 = .ok (.ireturn, 1) := k_172 zcX6_howMany rfl rfl
theorem dX6_howMany_69 : decode cX6_howMany 69 = .ok (.iconst 3, 1) := k_6 zcX6_howMany rfl rfl
theorem dX6_howMany_70 : decode cX6_howMany 70 = .ok (.ireturn, 1) := k_172 zcX6_howMany rfl rfl
theorem dX6_howMany_71 : decode cX6_howMany 71 = .ok (.iconst 1, 1) := k_4 zcX6_howMany rfl rfl
theorem dX6_howMany_72 : decode cX6_howMany 72 = .ok (.ireturn, 1) := k_172 zcX6_howMany rfl rfl
theorem dX6_isNumber_0 : decode cX6_isNumber 0 = .ok (.aload_n 0, 1) := k_42 zcX6_isNumber rfl rfl
theorem dX6_isNumber_1 : decode cX6_isNumber 1 = .ok (.iload_n 1, 1) := k_27 zcX6_isNumber rfl rfl
theorem dX6_isNumber_2 : decode cX6_isNumber 2 = .ok (.invokevirtual 124, 3) := k_182 zcX6_isNumber rfl rfl rfl
theorem dX6_isNumber_5 : decode cX6_isNumber 5 = .ok (.ifCond .eq 26, 3) := k_153 zcX6_isNumber rfl rfl rfl
theorem dX6_isNumber_8 : decode cX6_isNumber 8 = .ok (.iload_n 2, 1) := k_28 zcX6_isNumber rfl rfl
theorem dX6_isNumber_9 : decode cX6_isNumber 9 = .ok (.iconst 0, 1) := k_3 zcX6_isNumber rfl rfl
theorem dX6_isNumber_10 : decode cX6_isNumber 10 = .ok (.aload_n 0, 1) := k_42 zcX6_isNumber rfl rfl
theorem dX6_isNumber_11 : decode cX6_isNumber 11 = .ok (.iload_n 1, 1) := k_27 zcX6_isNumber rfl rfl
theorem dX6_isNumber_12 : decode cX6_isNumber 12 = .ok (.iconst 1, 1) := k_4 zcX6_isNumber rfl rfl
theorem dX6_isNumber_13 : decode cX6_isNumber 13 = .ok (.invokevirtual 80, 3) := k_182 zcX6_isNumber rfl rfl rfl
theorem dX6_isNumber_16 : decode cX6_isNumber 16 = .ok (.invokestatic 127, 3) := k_184 zcX6_isNumber rfl rfl rfl
theorem dX6_isNumber_19 : decode cX6_isNumber 19 = .ok (.iconst 1, 1) := k_4 zcX6_isNumber rfl rfl
theorem dX6_isNumber_20 : decode cX6_isNumber 20 = .ok (.isub, 1) := k_100 zcX6_isNumber rfl rfl
theorem dX6_isNumber_21 : decode cX6_isNumber 21 = .ok (.invokestatic 76, 3) := k_184 zcX6_isNumber rfl rfl rfl
theorem dX6_isNumber_24 : decode cX6_isNumber 24 = .ok (.ifCond .eq 7, 3) := k_153 zcX6_isNumber rfl rfl rfl
theorem dX6_isNumber_27 : decode cX6_isNumber 27 = .ok (.iconst 1, 1) := k_4 zcX6_isNumber rfl rfl
theorem dX6_isNumber_28 : decode cX6_isNumber 28 = .ok (.goto 4, 3) := k_167 zcX6_isNumber rfl rfl rfl
theorem dX6_isNumber_31 : decode cX6_isNumber 31 = .ok (.iconst 0, 1) := k_3 zcX6_isNumber rfl rfl
theorem dX6_isNumber_32 : decode cX6_isNumber 32 = .ok (.ireturn, 1) := k_172 zcX6_isNumber rfl rfl
theorem dX6_goThrough_0 : decode cX6_goThrough 0 = .ok (.iload_n 1, 1) := k_27 zcX6_goThrough rfl rfl
theorem dX6_goThrough_1 : decode cX6_goThrough 1 = .ok (.tableswitch 114 0 8 #[51, 58, 65, 72, 79, 86, 93, 100, 107], 51) := by decide +kernel
theorem dX6_goThrough_52 : decode cX6_goThrough 52 = .ok (.aload_n 0, 1) := k_42 zcX6_goThrough rfl rfl
theorem dX6_goThrough_53 : decode cX6_goThrough 53 = .ok (.invokevirtual 130, 3) := k_182 zcX6_goThrough rfl rfl rfl
theorem dX6_goThrough_56 : decode cX6_goThrough 56 = .ok (.goto 63, 3) := k_167 zcX6_goThrough rfl rfl rfl
theorem dX6_goThrough_59 : decode cX6_goThrough 59 = .ok (.aload_n 0, 1) := k_42 zcX6_goThrough rfl rfl
theorem dX6_goThrough_60 : decode cX6_goThrough 60 = .ok (.invokevirtual 133, 3) := k_182 zcX6_goThrough rfl rfl rfl
theorem dX6_goThrough_63 : decode cX6_goThrough 63 = .ok (.goto 56, 3) := k_167 zcX6_goThrough rfl rfl rfl
theorem dX6_goThrough_66 : decode cX6_goThrough 66 = .ok (.aload_n 0, 1) := k_42 zcX6_goThrough rfl rfl
theorem dX6_goThrough_67 : decode cX6_goThrough 67 = .ok (.invokevirtual 136, 3) := k_182 zcX6_goThrough rfl rfl rfl
theorem dX6_goThrough_70 : decode cX6_goThrough 70 = .ok (.goto 49, 3) := k_167 zcX6_goThrough rfl rfl rfl
theorem dX6_goThrough_73 : decode cX6_goThrough 73 = .ok (.aload_n 0, 1) := k_42 zcX6_goThrough rfl rfl
theorem dX6_goThrough_74 : decode cX6_goThrough 74 = .ok (.invokevirtual 139, 3) := k_182 zcX6_goThrough rfl rfl rfl
theorem dX6_goThrough_77 : decode cX6_goThrough 77 = .ok (.goto 42, 3) := k_167 zcX6_goThrough rfl rfl rfl
theorem dX6_goThrough_80 : decode cX6_goThrough 80 = .ok (.aload_n 0, 1) := k_42 zcX6_goThrough rfl rfl
theorem dX6_goThrough_81 : decode cX6_goThrough 81 = .ok (.invokevirtual 142, 3) := k_182 zcX6_goThrough rfl rfl rfl
theorem dX6_goThrough_84 : decode cX6_goThrough 84 = .ok (.goto 35, 3) := k_167 zcX6_goThrough rfl rfl rfl
theorem dX6_goThrough_87 : decode cX6_goThrough 87 = .ok (.aload_n 0, 1) := k_42 zcX6_goThrough rfl rfl
theorem dX6_goThrough_88 : decode cX6_goThrough 88 = .ok (.invokevirtual 145, 3) := k_182 zcX6_goThrough rfl rfl rfl
theorem dX6_goThrough_91 : decode cX6_goThrough 91 = .ok (.goto 28, 3) := k_167 zcX6_goThrough rfl rfl rfl
theorem dX6_goThrough_94 : decode cX6_goThrough 94 = .ok (.aload_n 0, 1) := k_42 zcX6_goThrough rfl rfl
theorem dX6_goThrough_95 : decode cX6_goThrough 95 = .ok (.invokevirtual 148, 3) := k_182 zcX6_goThrough rfl rfl rfl
theorem dX6_goThrough_98 : decode cX6_goThrough 98 = .ok (.goto 21, 3) := k_167 zcX6_goThrough rfl rfl rfl
theorem dX6_goThrough_101 : decode cX6_goThrough 101 = .ok (.aload_n 0, 1) := k_42 zcX6_goThrough rfl rfl
theorem dX6_goThrough_102 : decode cX6_goThrough 102 = .ok (.invokevirtual 151, 3) := k_182 zcX6_goThrough rfl rfl rfl
theorem dX6_goThrough_105 : decode cX6_goThrough 105 = .ok (.goto 14, 3) := k_167 zcX6_goThrough rfl rfl rfl
theorem dX6_goThrough_108 : decode cX6_goThrough 108 = .ok (.aload_n 0, 1) := k_42 zcX6_goThrough rfl rfl
theorem dX6_goThrough_109 : decode cX6_goThrough 109 = .ok (.invokevirtual 154, 3) := k_182 zcX6_goThrough rfl rfl rfl
theorem dX6_goThrough_112 : decode cX6_goThrough 112 = .ok (.goto 7, 3) := k_167 zcX6_goThrough rfl rfl rfl
theorem dX6_goThrough_115 : decode cX6_goThrough 115 = .ok (.aload_n 0, 1) := k_42 zcX6_goThrough rfl rfl
theorem dX6_goThrough_116 : decode cX6_goThrough 116 = .ok (.invokevirtual 157, 3) := k_182 zcX6_goThrough rfl rfl rfl
theorem dX6_goThrough_119 : decode cX6_goThrough 119 = .ok (.return_, 1) := k_177 zcX6_goThrough rfl rfl
theorem dX6_comes_0 : decode cX6_comes 0 = .ok (.aload_n 0, 1) := k_42 zcX6_comes rfl rfl
theorem dX6_comes_1 : decode cX6_comes 1 = .ok (.getfield 105, 3) := k_180 zcX6_comes rfl rfl rfl
theorem dX6_comes_4 : decode cX6_comes 4 = .ok (.ifCond .ne 6, 3) := k_154 zcX6_comes rfl rfl rfl
theorem dX6_comes_7 : decode cX6_comes 7 = .ok (.ldc 160, 2) := k_18 zcX6_comes rfl rfl rfl
theorem dX6_comes_9 : decode cX6_comes 9 = .ok (.ireturn, 1) := k_172 zcX6_comes rfl rfl
theorem dX6_comes_10 : decode cX6_comes 10 = .ok (.aload_n 0, 1) := k_42 zcX6_comes rfl rfl
theorem dX6_comes_11 : decode cX6_comes 11 = .ok (.iload_n 1, 1) := k_27 zcX6_comes rfl rfl
theorem dX6_comes_12 : decode cX6_comes 12 = .ok (.invokevirtual 161, 3) := k_182 zcX6_comes rfl rfl rfl
theorem dX6_comes_15 : decode cX6_comes 15 = .ok (.aload_n 0, 1) := k_42 zcX6_comes rfl rfl
theorem dX6_comes_16 : decode cX6_comes 16 = .ok (.getfield 31, 3) := k_180 zcX6_comes rfl rfl rfl
theorem dX6_comes_19 : decode cX6_comes 19 = .ok (.iload_n 2, 1) := k_28 zcX6_comes rfl rfl
theorem dX6_comes_20 : decode cX6_comes 20 = .ok (.iaload, 1) := k_46 zcX6_comes rfl rfl
theorem dX6_comes_21 : decode cX6_comes 21 = .ok (.ireturn, 1) := k_172 zcX6_comes rfl rfl
theorem dX6_greatest_0 : decode cX6_greatest 0 = .ok (.iconst 0, 1) := k_3 zcX6_greatest rfl rfl
theorem dX6_greatest_1 : decode cX6_greatest 1 = .ok (.istore_n 1, 1) := k_60 zcX6_greatest rfl rfl
theorem dX6_greatest_2 : decode cX6_greatest 2 = .ok (.iconst 0, 1) := k_3 zcX6_greatest rfl rfl
theorem dX6_greatest_3 : decode cX6_greatest 3 = .ok (.istore_n 2, 1) := k_61 zcX6_greatest rfl rfl
theorem dX6_greatest_4 : decode cX6_greatest 4 = .ok (.iconst 0, 1) := k_3 zcX6_greatest rfl rfl
theorem dX6_greatest_5 : decode cX6_greatest 5 = .ok (.istore_n 3, 1) := k_62 zcX6_greatest rfl rfl
theorem dX6_greatest_6 : decode cX6_greatest 6 = .ok (.iload_n 3, 1) := k_29 zcX6_greatest rfl rfl
theorem dX6_greatest_7 : decode cX6_greatest 7 = .ok (.aload_n 0, 1) := k_42 zcX6_greatest rfl rfl
theorem dX6_greatest_8 : decode cX6_greatest 8 = .ok (.getfield 105, 3) := k_180 zcX6_greatest rfl rfl rfl
theorem dX6_greatest_11 : decode cX6_greatest 11 = .ok (.if_icmp .ge 26, 3) := k_162 zcX6_greatest rfl rfl rfl
theorem dX6_greatest_14 : decode cX6_greatest 14 = .ok (.aload_n 0, 1) := k_42 zcX6_greatest rfl rfl
theorem dX6_greatest_15 : decode cX6_greatest 15 = .ok (.getfield 28, 3) := k_180 zcX6_greatest rfl rfl rfl
theorem dX6_greatest_18 : decode cX6_greatest 18 = .ok (.iload_n 3, 1) := k_29 zcX6_greatest rfl rfl
theorem dX6_greatest_19 : decode cX6_greatest 19 = .ok (.iaload, 1) := k_46 zcX6_greatest rfl rfl
theorem dX6_greatest_20 : decode cX6_greatest 20 = .ok (.aload_n 0, 1) := k_42 zcX6_greatest rfl rfl
theorem dX6_greatest_21 : decode cX6_greatest 21 = .ok (.getfield 28, 3) := k_180 zcX6_greatest rfl rfl rfl
theorem dX6_greatest_24 : decode cX6_greatest 24 = .ok (.iload_n 1, 1) := k_27 zcX6_greatest rfl rfl
theorem dX6_greatest_25 : decode cX6_greatest 25 = .ok (.iaload, 1) := k_46 zcX6_greatest rfl rfl
theorem dX6_greatest_26 : decode cX6_greatest 26 = .ok (.if_icmp .le 5, 3) := k_164 zcX6_greatest rfl rfl rfl
theorem dX6_greatest_29 : decode cX6_greatest 29 = .ok (.iload_n 3, 1) := k_29 zcX6_greatest rfl rfl
theorem dX6_greatest_30 : decode cX6_greatest 30 = .ok (.istore_n 1, 1) := k_60 zcX6_greatest rfl rfl
theorem dX6_greatest_31 : decode cX6_greatest 31 = .ok (.iinc 3 1, 3) := k_132 zcX6_greatest rfl rfl rfl rfl
theorem dX6_greatest_34 : decode cX6_greatest 34 = .ok (.goto (-28), 3) := k_167 zcX6_greatest rfl rfl rfl
theorem dX6_greatest_37 : decode cX6_greatest 37 = .ok (.iconst 0, 1) := k_3 zcX6_greatest rfl rfl
theorem dX6_greatest_38 : decode cX6_greatest 38 = .ok (.istore_n 3, 1) := k_62 zcX6_greatest rfl rfl
theorem dX6_greatest_39 : decode cX6_greatest 39 = .ok (.iload_n 3, 1) := k_29 zcX6_greatest rfl rfl
theorem dX6_greatest_40 : decode cX6_greatest 40 = .ok (.aload_n 0, 1) := k_42 zcX6_greatest rfl rfl
theorem dX6_greatest_41 : decode cX6_greatest 41 = .ok (.getfield 105, 3) := k_180 zcX6_greatest rfl rfl rfl
theorem dX6_greatest_44 : decode cX6_greatest 44 = .ok (.if_icmp .ge 32, 3) := k_162 zcX6_greatest rfl rfl rfl
theorem dX6_greatest_47 : decode cX6_greatest 47 = .ok (.iload_n 2, 1) := k_28 zcX6_greatest rfl rfl
theorem dX6_greatest_48 : decode cX6_greatest 48 = .ok (.aload_n 0, 1) := k_42 zcX6_greatest rfl rfl
theorem dX6_greatest_49 : decode cX6_greatest 49 = .ok (.getfield 28, 3) := k_180 zcX6_greatest rfl rfl rfl
theorem dX6_greatest_52 : decode cX6_greatest 52 = .ok (.iload_n 3, 1) := k_29 zcX6_greatest rfl rfl
theorem dX6_greatest_53 : decode cX6_greatest 53 = .ok (.iaload, 1) := k_46 zcX6_greatest rfl rfl
theorem dX6_greatest_54 : decode cX6_greatest 54 = .ok (.aload_n 0, 1) := k_42 zcX6_greatest rfl rfl
theorem dX6_greatest_55 : decode cX6_greatest 55 = .ok (.getfield 28, 3) := k_180 zcX6_greatest rfl rfl rfl
theorem dX6_greatest_58 : decode cX6_greatest 58 = .ok (.iload_n 1, 1) := k_27 zcX6_greatest rfl rfl
theorem dX6_greatest_59 : decode cX6_greatest 59 = .ok (.iaload, 1) := k_46 zcX6_greatest rfl rfl
theorem dX6_greatest_60 : decode cX6_greatest 60 = .ok (.if_icmp .ne 7, 3) := k_160 zcX6_greatest rfl rfl rfl
theorem dX6_greatest_63 : decode cX6_greatest 63 = .ok (.iconst 1, 1) := k_4 zcX6_greatest rfl rfl
theorem dX6_greatest_64 : decode cX6_greatest 64 = .ok (.goto 4, 3) := k_167 zcX6_greatest rfl rfl rfl
theorem dX6_greatest_67 : decode cX6_greatest 67 = .ok (.iconst 0, 1) := k_3 zcX6_greatest rfl rfl
theorem dX6_greatest_68 : decode cX6_greatest 68 = .ok (.iadd, 1) := k_96 zcX6_greatest rfl rfl
theorem dX6_greatest_69 : decode cX6_greatest 69 = .ok (.istore_n 2, 1) := k_61 zcX6_greatest rfl rfl
theorem dX6_greatest_70 : decode cX6_greatest 70 = .ok (.iinc 3 1, 3) := k_132 zcX6_greatest rfl rfl rfl rfl
theorem dX6_greatest_73 : decode cX6_greatest 73 = .ok (.goto (-34), 3) := k_167 zcX6_greatest rfl rfl rfl
theorem dX6_greatest_76 : decode cX6_greatest 76 = .ok (.aload_n 0, 1) := k_42 zcX6_greatest rfl rfl
theorem dX6_greatest_77 : decode cX6_greatest 77 = .ok (.getfield 31, 3) := k_180 zcX6_greatest rfl rfl rfl
theorem dX6_greatest_80 : decode cX6_greatest 80 = .ok (.iconst 0, 1) := k_3 zcX6_greatest rfl rfl
theorem dX6_greatest_81 : decode cX6_greatest 81 = .ok (.aload_n 0, 1) := k_42 zcX6_greatest rfl rfl
theorem dX6_greatest_82 : decode cX6_greatest 82 = .ok (.getfield 28, 3) := k_180 zcX6_greatest rfl rfl rfl
theorem dX6_greatest_85 : decode cX6_greatest 85 = .ok (.iload_n 1, 1) := k_27 zcX6_greatest rfl rfl
theorem dX6_greatest_86 : decode cX6_greatest 86 = .ok (.iaload, 1) := k_46 zcX6_greatest rfl rfl
theorem dX6_greatest_87 : decode cX6_greatest 87 = .ok (.iastore, 1) := k_79 zcX6_greatest rfl rfl
theorem dX6_greatest_88 : decode cX6_greatest 88 = .ok (.aload_n 0, 1) := k_42 zcX6_greatest rfl rfl
theorem dX6_greatest_89 : decode cX6_greatest 89 = .ok (.getfield 31, 3) := k_180 zcX6_greatest rfl rfl rfl
theorem dX6_greatest_92 : decode cX6_greatest 92 = .ok (.iconst 1, 1) := k_4 zcX6_greatest rfl rfl
theorem dX6_greatest_93 : decode cX6_greatest 93 = .ok (.iload_n 2, 1) := k_28 zcX6_greatest rfl rfl
theorem dX6_greatest_94 : decode cX6_greatest 94 = .ok (.iastore, 1) := k_79 zcX6_greatest rfl rfl
theorem dX6_greatest_95 : decode cX6_greatest 95 = .ok (.aload_n 0, 1) := k_42 zcX6_greatest rfl rfl
theorem dX6_greatest_96 : decode cX6_greatest 96 = .ok (.getfield 31, 3) := k_180 zcX6_greatest rfl rfl rfl
theorem dX6_greatest_99 : decode cX6_greatest 99 = .ok (.iconst 2, 1) := k_5 zcX6_greatest rfl rfl
theorem dX6_greatest_100 : decode cX6_greatest 100 = .ok (.iload_n 1, 1) := k_27 zcX6_greatest rfl rfl
theorem dX6_greatest_101 : decode cX6_greatest 101 = .ok (.iastore, 1) := k_79 zcX6_greatest rfl rfl
theorem dX6_greatest_102 : decode cX6_greatest 102 = .ok (.aload_n 0, 1) := k_42 zcX6_greatest rfl rfl
theorem dX6_greatest_103 : decode cX6_greatest 103 = .ok (.getfield 31, 3) := k_180 zcX6_greatest rfl rfl rfl
theorem dX6_greatest_106 : decode cX6_greatest 106 = .ok (.iconst 3, 1) := k_6 zcX6_greatest rfl rfl
theorem dX6_greatest_107 : decode cX6_greatest 107 = .ok (.aload_n 0, 1) := k_42 zcX6_greatest rfl rfl
theorem dX6_greatest_108 : decode cX6_greatest 108 = .ok (.getfield 105, 3) := k_180 zcX6_greatest rfl rfl rfl
theorem dX6_greatest_111 : decode cX6_greatest 111 = .ok (.iastore, 1) := k_79 zcX6_greatest rfl rfl
theorem dX6_greatest_112 : decode cX6_greatest 112 = .ok (.return_, 1) := k_177 zcX6_greatest rfl rfl
theorem dX6_share_0 : decode cX6_share 0 = .ok (.iconst 0, 1) := k_3 zcX6_share rfl rfl
theorem dX6_share_1 : decode cX6_share 1 = .ok (.istore_n 1, 1) := k_60 zcX6_share rfl rfl
theorem dX6_share_2 : decode cX6_share 2 = .ok (.iconst 0, 1) := k_3 zcX6_share rfl rfl
theorem dX6_share_3 : decode cX6_share 3 = .ok (.istore_n 2, 1) := k_61 zcX6_share rfl rfl
theorem dX6_share_4 : decode cX6_share 4 = .ok (.iconst 0, 1) := k_3 zcX6_share rfl rfl
theorem dX6_share_5 : decode cX6_share 5 = .ok (.istore_n 3, 1) := k_62 zcX6_share rfl rfl
theorem dX6_share_6 : decode cX6_share 6 = .ok (.iload_n 3, 1) := k_29 zcX6_share rfl rfl
theorem dX6_share_7 : decode cX6_share 7 = .ok (.aload_n 0, 1) := k_42 zcX6_share rfl rfl
theorem dX6_share_8 : decode cX6_share 8 = .ok (.getfield 105, 3) := k_180 zcX6_share rfl rfl rfl
theorem dX6_share_11 : decode cX6_share 11 = .ok (.if_icmp .ge 70, 3) := k_162 zcX6_share rfl rfl rfl
theorem dX6_share_14 : decode cX6_share 14 = .ok (.aload_n 0, 1) := k_42 zcX6_share rfl rfl
theorem dX6_share_15 : decode cX6_share 15 = .ok (.getfield 28, 3) := k_180 zcX6_share rfl rfl rfl
theorem dX6_share_18 : decode cX6_share 18 = .ok (.iload_n 3, 1) := k_29 zcX6_share rfl rfl
theorem dX6_share_19 : decode cX6_share 19 = .ok (.iaload, 1) := k_46 zcX6_share rfl rfl
theorem dX6_share_20 : decode cX6_share 20 = .ok (.ifCond .ge 13, 3) := k_156 zcX6_share rfl rfl rfl
theorem dX6_share_23 : decode cX6_share 23 = .ok (.aload_n 0, 1) := k_42 zcX6_share rfl rfl
theorem dX6_share_24 : decode cX6_share 24 = .ok (.getfield 28, 3) := k_180 zcX6_share rfl rfl rfl
theorem dX6_share_27 : decode cX6_share 27 = .ok (.iload_n 3, 1) := k_29 zcX6_share rfl rfl
theorem dX6_share_28 : decode cX6_share 28 = .ok (.iaload, 1) := k_46 zcX6_share rfl rfl
theorem dX6_share_29 : decode cX6_share 29 = .ok (.ineg, 1) := k_116 zcX6_share rfl rfl
theorem dX6_share_30 : decode cX6_share 30 = .ok (.goto 9, 3) := k_167 zcX6_share rfl rfl rfl
theorem dX6_share_33 : decode cX6_share 33 = .ok (.aload_n 0, 1) := k_42 zcX6_share rfl rfl
theorem dX6_share_34 : decode cX6_share 34 = .ok (.getfield 28, 3) := k_180 zcX6_share rfl rfl rfl
theorem dX6_share_37 : decode cX6_share 37 = .ok (.iload_n 3, 1) := k_29 zcX6_share rfl rfl
theorem dX6_share_38 : decode cX6_share 38 = .ok (.iaload, 1) := k_46 zcX6_share rfl rfl
theorem dX6_share_39 : decode cX6_share 39 = .ok (.istore 4, 2) := k_54 zcX6_share rfl rfl rfl
theorem dX6_share_41 : decode cX6_share 41 = .ok (.iload_n 2, 1) := k_28 zcX6_share rfl rfl
theorem dX6_share_42 : decode cX6_share 42 = .ok (.iload 4, 2) := k_21 zcX6_share rfl rfl rfl
theorem dX6_share_44 : decode cX6_share 44 = .ok (.ifCond .ne 7, 3) := k_154 zcX6_share rfl rfl rfl
theorem dX6_share_47 : decode cX6_share 47 = .ok (.iconst 0, 1) := k_3 zcX6_share rfl rfl
theorem dX6_share_48 : decode cX6_share 48 = .ok (.goto 4, 3) := k_167 zcX6_share rfl rfl rfl
theorem dX6_share_51 : decode cX6_share 51 = .ok (.iconst 1, 1) := k_4 zcX6_share rfl rfl
theorem dX6_share_52 : decode cX6_share 52 = .ok (.iadd, 1) := k_96 zcX6_share rfl rfl
theorem dX6_share_53 : decode cX6_share 53 = .ok (.istore_n 2, 1) := k_61 zcX6_share rfl rfl
theorem dX6_share_54 : decode cX6_share 54 = .ok (.iload 4, 2) := k_21 zcX6_share rfl rfl rfl
theorem dX6_share_56 : decode cX6_share 56 = .ok (.ifCond .le 19, 3) := k_158 zcX6_share rfl rfl rfl
theorem dX6_share_59 : decode cX6_share 59 = .ok (.iload_n 1, 1) := k_27 zcX6_share rfl rfl
theorem dX6_share_60 : decode cX6_share 60 = .ok (.iload 4, 2) := k_21 zcX6_share rfl rfl rfl
theorem dX6_share_62 : decode cX6_share 62 = .ok (.irem, 1) := k_112 zcX6_share rfl rfl
theorem dX6_share_63 : decode cX6_share 63 = .ok (.istore 5, 2) := k_54 zcX6_share rfl rfl rfl
theorem dX6_share_65 : decode cX6_share 65 = .ok (.iload 4, 2) := k_21 zcX6_share rfl rfl rfl
theorem dX6_share_67 : decode cX6_share 67 = .ok (.istore_n 1, 1) := k_60 zcX6_share rfl rfl
theorem dX6_share_68 : decode cX6_share 68 = .ok (.iload 5, 2) := k_21 zcX6_share rfl rfl rfl
theorem dX6_share_70 : decode cX6_share 70 = .ok (.istore 4, 2) := k_54 zcX6_share rfl rfl rfl
theorem dX6_share_72 : decode cX6_share 72 = .ok (.goto (-18), 3) := k_167 zcX6_share rfl rfl rfl
theorem dX6_share_75 : decode cX6_share 75 = .ok (.iinc 3 1, 3) := k_132 zcX6_share rfl rfl rfl rfl
theorem dX6_share_78 : decode cX6_share 78 = .ok (.goto (-72), 3) := k_167 zcX6_share rfl rfl rfl
theorem dX6_share_81 : decode cX6_share 81 = .ok (.aload_n 0, 1) := k_42 zcX6_share rfl rfl
theorem dX6_share_82 : decode cX6_share 82 = .ok (.getfield 31, 3) := k_180 zcX6_share rfl rfl rfl
theorem dX6_share_85 : decode cX6_share 85 = .ok (.iconst 0, 1) := k_3 zcX6_share rfl rfl
theorem dX6_share_86 : decode cX6_share 86 = .ok (.iload_n 1, 1) := k_27 zcX6_share rfl rfl
theorem dX6_share_87 : decode cX6_share 87 = .ok (.iastore, 1) := k_79 zcX6_share rfl rfl
theorem dX6_share_88 : decode cX6_share 88 = .ok (.aload_n 0, 1) := k_42 zcX6_share rfl rfl
theorem dX6_share_89 : decode cX6_share 89 = .ok (.getfield 31, 3) := k_180 zcX6_share rfl rfl rfl
theorem dX6_share_92 : decode cX6_share 92 = .ok (.iconst 1, 1) := k_4 zcX6_share rfl rfl
theorem dX6_share_93 : decode cX6_share 93 = .ok (.iload_n 2, 1) := k_28 zcX6_share rfl rfl
theorem dX6_share_94 : decode cX6_share 94 = .ok (.iastore, 1) := k_79 zcX6_share rfl rfl
theorem dX6_share_95 : decode cX6_share 95 = .ok (.return_, 1) := k_177 zcX6_share rfl rfl
theorem dX6_rest_0 : decode cX6_rest 0 = .ok (.iload_n 0, 1) := k_26 zcX6_rest rfl rfl
theorem dX6_rest_1 : decode cX6_rest 1 = .ok (.iload_n 1, 1) := k_27 zcX6_rest rfl rfl
theorem dX6_rest_2 : decode cX6_rest 2 = .ok (.irem, 1) := k_112 zcX6_rest rfl rfl
theorem dX6_rest_3 : decode cX6_rest 3 = .ok (.istore_n 2, 1) := k_61 zcX6_rest rfl rfl
theorem dX6_rest_4 : decode cX6_rest 4 = .ok (.iload_n 2, 1) := k_28 zcX6_rest rfl rfl
theorem dX6_rest_5 : decode cX6_rest 5 = .ok (.ifCond .ge 9, 3) := k_156 zcX6_rest rfl rfl rfl
theorem dX6_rest_8 : decode cX6_rest 8 = .ok (.iload_n 2, 1) := k_28 zcX6_rest rfl rfl
theorem dX6_rest_9 : decode cX6_rest 9 = .ok (.iload_n 1, 1) := k_27 zcX6_rest rfl rfl
theorem dX6_rest_10 : decode cX6_rest 10 = .ok (.iadd, 1) := k_96 zcX6_rest rfl rfl
theorem dX6_rest_11 : decode cX6_rest 11 = .ok (.goto 4, 3) := k_167 zcX6_rest rfl rfl rfl
theorem dX6_rest_14 : decode cX6_rest 14 = .ok (.iload_n 2, 1) := k_28 zcX6_rest rfl rfl
theorem dX6_rest_15 : decode cX6_rest 15 = .ok (.ireturn, 1) := k_172 zcX6_rest rfl rfl
theorem dX6_line_0 : decode cX6_line 0 = .ok (.iconst 1, 1) := k_4 zcX6_line rfl rfl
theorem dX6_line_1 : decode cX6_line 1 = .ok (.istore_n 1, 1) := k_60 zcX6_line rfl rfl
theorem dX6_line_2 : decode cX6_line 2 = .ok (.iconst 0, 1) := k_3 zcX6_line rfl rfl
theorem dX6_line_3 : decode cX6_line 3 = .ok (.istore_n 2, 1) := k_61 zcX6_line rfl rfl
theorem dX6_line_4 : decode cX6_line 4 = .ok (.iconst 0, 1) := k_3 zcX6_line rfl rfl
theorem dX6_line_5 : decode cX6_line 5 = .ok (.istore_n 3, 1) := k_62 zcX6_line rfl rfl
theorem dX6_line_6 : decode cX6_line 6 = .ok (.iload_n 3, 1) := k_29 zcX6_line rfl rfl
theorem dX6_line_7 : decode cX6_line 7 = .ok (.aload_n 0, 1) := k_42 zcX6_line rfl rfl
theorem dX6_line_8 : decode cX6_line 8 = .ok (.getfield 105, 3) := k_180 zcX6_line rfl rfl rfl
theorem dX6_line_11 : decode cX6_line 11 = .ok (.if_icmp .ge 59, 3) := k_162 zcX6_line rfl rfl rfl
theorem dX6_line_14 : decode cX6_line 14 = .ok (.aload_n 0, 1) := k_42 zcX6_line rfl rfl
theorem dX6_line_15 : decode cX6_line 15 = .ok (.getfield 28, 3) := k_180 zcX6_line rfl rfl rfl
theorem dX6_line_18 : decode cX6_line 18 = .ok (.iload_n 3, 1) := k_29 zcX6_line rfl rfl
theorem dX6_line_19 : decode cX6_line 19 = .ok (.iaload, 1) := k_46 zcX6_line rfl rfl
theorem dX6_line_20 : decode cX6_line 20 = .ok (.sipush 997, 3) := k_17 zcX6_line rfl rfl rfl
theorem dX6_line_23 : decode cX6_line 23 = .ok (.invokestatic 164, 3) := k_184 zcX6_line rfl rfl rfl
theorem dX6_line_26 : decode cX6_line 26 = .ok (.istore 4, 2) := k_54 zcX6_line rfl rfl rfl
theorem dX6_line_28 : decode cX6_line 28 = .ok (.iload 4, 2) := k_21 zcX6_line rfl rfl rfl
theorem dX6_line_30 : decode cX6_line 30 = .ok (.iload_n 1, 1) := k_27 zcX6_line rfl rfl
theorem dX6_line_31 : decode cX6_line 31 = .ok (.imul, 1) := k_104 zcX6_line rfl rfl
theorem dX6_line_32 : decode cX6_line 32 = .ok (.sipush 997, 3) := k_17 zcX6_line rfl rfl rfl
theorem dX6_line_35 : decode cX6_line 35 = .ok (.irem, 1) := k_112 zcX6_line rfl rfl
theorem dX6_line_36 : decode cX6_line 36 = .ok (.istore_n 1, 1) := k_60 zcX6_line rfl rfl
theorem dX6_line_37 : decode cX6_line 37 = .ok (.iload 4, 2) := k_21 zcX6_line rfl rfl rfl
theorem dX6_line_39 : decode cX6_line 39 = .ok (.iload_n 2, 1) := k_28 zcX6_line rfl rfl
theorem dX6_line_40 : decode cX6_line 40 = .ok (.imul, 1) := k_104 zcX6_line rfl rfl
theorem dX6_line_41 : decode cX6_line 41 = .ok (.bipush 7, 2) := k_16 zcX6_line rfl rfl rfl
theorem dX6_line_43 : decode cX6_line 43 = .ok (.aload_n 0, 1) := k_42 zcX6_line rfl rfl
theorem dX6_line_44 : decode cX6_line 44 = .ok (.getfield 28, 3) := k_180 zcX6_line rfl rfl rfl
theorem dX6_line_47 : decode cX6_line 47 = .ok (.iload_n 3, 1) := k_29 zcX6_line rfl rfl
theorem dX6_line_48 : decode cX6_line 48 = .ok (.iaload, 1) := k_46 zcX6_line rfl rfl
theorem dX6_line_49 : decode cX6_line 49 = .ok (.imul, 1) := k_104 zcX6_line rfl rfl
theorem dX6_line_50 : decode cX6_line 50 = .ok (.iconst 1, 1) := k_4 zcX6_line rfl rfl
theorem dX6_line_51 : decode cX6_line 51 = .ok (.iadd, 1) := k_96 zcX6_line rfl rfl
theorem dX6_line_52 : decode cX6_line 52 = .ok (.sipush 997, 3) := k_17 zcX6_line rfl rfl rfl
theorem dX6_line_55 : decode cX6_line 55 = .ok (.invokestatic 164, 3) := k_184 zcX6_line rfl rfl rfl
theorem dX6_line_58 : decode cX6_line 58 = .ok (.iadd, 1) := k_96 zcX6_line rfl rfl
theorem dX6_line_59 : decode cX6_line 59 = .ok (.sipush 997, 3) := k_17 zcX6_line rfl rfl rfl
theorem dX6_line_62 : decode cX6_line 62 = .ok (.irem, 1) := k_112 zcX6_line rfl rfl
theorem dX6_line_63 : decode cX6_line 63 = .ok (.istore_n 2, 1) := k_61 zcX6_line rfl rfl
theorem dX6_line_64 : decode cX6_line 64 = .ok (.iinc 3 1, 3) := k_132 zcX6_line rfl rfl rfl rfl
theorem dX6_line_67 : decode cX6_line 67 = .ok (.goto (-61), 3) := k_167 zcX6_line rfl rfl rfl
theorem dX6_line_70 : decode cX6_line 70 = .ok (.aload_n 0, 1) := k_42 zcX6_line rfl rfl
theorem dX6_line_71 : decode cX6_line 71 = .ok (.getfield 31, 3) := k_180 zcX6_line rfl rfl rfl
theorem dX6_line_74 : decode cX6_line 74 = .ok (.iconst 0, 1) := k_3 zcX6_line rfl rfl
theorem dX6_line_75 : decode cX6_line 75 = .ok (.iload_n 1, 1) := k_27 zcX6_line rfl rfl
theorem dX6_line_76 : decode cX6_line 76 = .ok (.iastore, 1) := k_79 zcX6_line rfl rfl
theorem dX6_line_77 : decode cX6_line 77 = .ok (.aload_n 0, 1) := k_42 zcX6_line rfl rfl
theorem dX6_line_78 : decode cX6_line 78 = .ok (.getfield 31, 3) := k_180 zcX6_line rfl rfl rfl
theorem dX6_line_81 : decode cX6_line 81 = .ok (.iconst 1, 1) := k_4 zcX6_line rfl rfl
theorem dX6_line_82 : decode cX6_line 82 = .ok (.iload_n 2, 1) := k_28 zcX6_line rfl rfl
theorem dX6_line_83 : decode cX6_line 83 = .ok (.iastore, 1) := k_79 zcX6_line rfl rfl
theorem dX6_line_84 : decode cX6_line 84 = .ok (.return_, 1) := k_177 zcX6_line rfl rfl
theorem dX6_run_0 : decode cX6_run 0 = .ok (.iconst 0, 1) := k_3 zcX6_run rfl rfl
theorem dX6_run_1 : decode cX6_run 1 = .ok (.istore_n 1, 1) := k_60 zcX6_run rfl rfl
theorem dX6_run_2 : decode cX6_run 2 = .ok (.ldc 160, 2) := k_18 zcX6_run rfl rfl rfl
theorem dX6_run_4 : decode cX6_run 4 = .ok (.istore_n 2, 1) := k_61 zcX6_run rfl rfl
theorem dX6_run_5 : decode cX6_run 5 = .ok (.ldc 160, 2) := k_18 zcX6_run rfl rfl rfl
theorem dX6_run_7 : decode cX6_run 7 = .ok (.istore_n 3, 1) := k_62 zcX6_run rfl rfl
theorem dX6_run_8 : decode cX6_run 8 = .ok (.ldc 160, 2) := k_18 zcX6_run rfl rfl rfl
theorem dX6_run_10 : decode cX6_run 10 = .ok (.istore 4, 2) := k_54 zcX6_run rfl rfl rfl
theorem dX6_run_12 : decode cX6_run 12 = .ok (.iconst 0, 1) := k_3 zcX6_run rfl rfl
theorem dX6_run_13 : decode cX6_run 13 = .ok (.istore 5, 2) := k_54 zcX6_run rfl rfl rfl
theorem dX6_run_15 : decode cX6_run 15 = .ok (.iload 5, 2) := k_21 zcX6_run rfl rfl rfl
theorem dX6_run_17 : decode cX6_run 17 = .ok (.aload_n 0, 1) := k_42 zcX6_run rfl rfl
theorem dX6_run_18 : decode cX6_run 18 = .ok (.getfield 105, 3) := k_180 zcX6_run rfl rfl rfl
theorem dX6_run_21 : decode cX6_run 21 = .ok (.if_icmp .ge 80, 3) := k_162 zcX6_run rfl rfl rfl
theorem dX6_run_24 : decode cX6_run 24 = .ok (.iload_n 1, 1) := k_27 zcX6_run rfl rfl
theorem dX6_run_25 : decode cX6_run 25 = .ok (.aload_n 0, 1) := k_42 zcX6_run rfl rfl
theorem dX6_run_26 : decode cX6_run 26 = .ok (.getfield 28, 3) := k_180 zcX6_run rfl rfl rfl
theorem dX6_run_29 : decode cX6_run 29 = .ok (.iload 5, 2) := k_21 zcX6_run rfl rfl rfl
theorem dX6_run_31 : decode cX6_run 31 = .ok (.iaload, 1) := k_46 zcX6_run rfl rfl
theorem dX6_run_32 : decode cX6_run 32 = .ok (.iadd, 1) := k_96 zcX6_run rfl rfl
theorem dX6_run_33 : decode cX6_run 33 = .ok (.istore_n 1, 1) := k_60 zcX6_run rfl rfl
theorem dX6_run_34 : decode cX6_run 34 = .ok (.iload_n 1, 1) := k_27 zcX6_run rfl rfl
theorem dX6_run_35 : decode cX6_run 35 = .ok (.iload_n 3, 1) := k_29 zcX6_run rfl rfl
theorem dX6_run_36 : decode cX6_run 36 = .ok (.if_icmp .le 5, 3) := k_164 zcX6_run rfl rfl rfl
theorem dX6_run_39 : decode cX6_run 39 = .ok (.iload_n 1, 1) := k_27 zcX6_run rfl rfl
theorem dX6_run_40 : decode cX6_run 40 = .ok (.istore_n 3, 1) := k_62 zcX6_run rfl rfl
theorem dX6_run_41 : decode cX6_run 41 = .ok (.iconst 0, 1) := k_3 zcX6_run rfl rfl
theorem dX6_run_42 : decode cX6_run 42 = .ok (.istore 6, 2) := k_54 zcX6_run rfl rfl rfl
theorem dX6_run_44 : decode cX6_run 44 = .ok (.iload 5, 2) := k_21 zcX6_run rfl rfl rfl
theorem dX6_run_46 : decode cX6_run 46 = .ok (.istore 7, 2) := k_54 zcX6_run rfl rfl rfl
theorem dX6_run_48 : decode cX6_run 48 = .ok (.iload 7, 2) := k_21 zcX6_run rfl rfl rfl
theorem dX6_run_50 : decode cX6_run 50 = .ok (.aload_n 0, 1) := k_42 zcX6_run rfl rfl
theorem dX6_run_51 : decode cX6_run 51 = .ok (.getfield 105, 3) := k_180 zcX6_run rfl rfl rfl
theorem dX6_run_54 : decode cX6_run 54 = .ok (.if_icmp .ge 30, 3) := k_162 zcX6_run rfl rfl rfl
theorem dX6_run_57 : decode cX6_run 57 = .ok (.iload 6, 2) := k_21 zcX6_run rfl rfl rfl
theorem dX6_run_59 : decode cX6_run 59 = .ok (.aload_n 0, 1) := k_42 zcX6_run rfl rfl
theorem dX6_run_60 : decode cX6_run 60 = .ok (.getfield 28, 3) := k_180 zcX6_run rfl rfl rfl
theorem dX6_run_63 : decode cX6_run 63 = .ok (.iload 7, 2) := k_21 zcX6_run rfl rfl rfl
theorem dX6_run_65 : decode cX6_run 65 = .ok (.iaload, 1) := k_46 zcX6_run rfl rfl
theorem dX6_run_66 : decode cX6_run 66 = .ok (.iadd, 1) := k_96 zcX6_run rfl rfl
theorem dX6_run_67 : decode cX6_run 67 = .ok (.istore 6, 2) := k_54 zcX6_run rfl rfl rfl
theorem dX6_run_69 : decode cX6_run 69 = .ok (.iload 6, 2) := k_21 zcX6_run rfl rfl rfl
theorem dX6_run_71 : decode cX6_run 71 = .ok (.iload_n 2, 1) := k_28 zcX6_run rfl rfl
theorem dX6_run_72 : decode cX6_run 72 = .ok (.if_icmp .le 6, 3) := k_164 zcX6_run rfl rfl rfl
theorem dX6_run_75 : decode cX6_run 75 = .ok (.iload 6, 2) := k_21 zcX6_run rfl rfl rfl
theorem dX6_run_77 : decode cX6_run 77 = .ok (.istore_n 2, 1) := k_61 zcX6_run rfl rfl
theorem dX6_run_78 : decode cX6_run 78 = .ok (.iinc 7 1, 3) := k_132 zcX6_run rfl rfl rfl rfl
theorem dX6_run_81 : decode cX6_run 81 = .ok (.goto (-33), 3) := k_167 zcX6_run rfl rfl rfl
theorem dX6_run_84 : decode cX6_run 84 = .ok (.iload 6, 2) := k_21 zcX6_run rfl rfl rfl
theorem dX6_run_86 : decode cX6_run 86 = .ok (.iload 4, 2) := k_21 zcX6_run rfl rfl rfl
theorem dX6_run_88 : decode cX6_run 88 = .ok (.if_icmp .le 7, 3) := k_164 zcX6_run rfl rfl rfl
theorem dX6_run_91 : decode cX6_run 91 = .ok (.iload 6, 2) := k_21 zcX6_run rfl rfl rfl
theorem dX6_run_93 : decode cX6_run 93 = .ok (.istore 4, 2) := k_54 zcX6_run rfl rfl rfl
theorem dX6_run_95 : decode cX6_run 95 = .ok (.iinc 5 1, 3) := k_132 zcX6_run rfl rfl rfl rfl
theorem dX6_run_98 : decode cX6_run 98 = .ok (.goto (-83), 3) := k_167 zcX6_run rfl rfl rfl
theorem dX6_run_101 : decode cX6_run 101 = .ok (.aload_n 0, 1) := k_42 zcX6_run rfl rfl
theorem dX6_run_102 : decode cX6_run 102 = .ok (.getfield 31, 3) := k_180 zcX6_run rfl rfl rfl
theorem dX6_run_105 : decode cX6_run 105 = .ok (.iconst 0, 1) := k_3 zcX6_run rfl rfl
theorem dX6_run_106 : decode cX6_run 106 = .ok (.iload_n 2, 1) := k_28 zcX6_run rfl rfl
theorem dX6_run_107 : decode cX6_run 107 = .ok (.iastore, 1) := k_79 zcX6_run rfl rfl
theorem dX6_run_108 : decode cX6_run 108 = .ok (.aload_n 0, 1) := k_42 zcX6_run rfl rfl
theorem dX6_run_109 : decode cX6_run 109 = .ok (.getfield 31, 3) := k_180 zcX6_run rfl rfl rfl
theorem dX6_run_112 : decode cX6_run 112 = .ok (.iconst 1, 1) := k_4 zcX6_run rfl rfl
theorem dX6_run_113 : decode cX6_run 113 = .ok (.iload_n 1, 1) := k_27 zcX6_run rfl rfl
theorem dX6_run_114 : decode cX6_run 114 = .ok (.iastore, 1) := k_79 zcX6_run rfl rfl
theorem dX6_run_115 : decode cX6_run 115 = .ok (.aload_n 0, 1) := k_42 zcX6_run rfl rfl
theorem dX6_run_116 : decode cX6_run 116 = .ok (.getfield 31, 3) := k_180 zcX6_run rfl rfl rfl
theorem dX6_run_119 : decode cX6_run 119 = .ok (.iconst 2, 1) := k_5 zcX6_run rfl rfl
theorem dX6_run_120 : decode cX6_run 120 = .ok (.iload_n 3, 1) := k_29 zcX6_run rfl rfl
theorem dX6_run_121 : decode cX6_run 121 = .ok (.iastore, 1) := k_79 zcX6_run rfl rfl
theorem dX6_run_122 : decode cX6_run 122 = .ok (.aload_n 0, 1) := k_42 zcX6_run rfl rfl
theorem dX6_run_123 : decode cX6_run 123 = .ok (.getfield 31, 3) := k_180 zcX6_run rfl rfl rfl
theorem dX6_run_126 : decode cX6_run 126 = .ok (.iconst 3, 1) := k_6 zcX6_run rfl rfl
theorem dX6_run_127 : decode cX6_run 127 = .ok (.iload 4, 2) := k_21 zcX6_run rfl rfl rfl
theorem dX6_run_129 : decode cX6_run 129 = .ok (.iastore, 1) := k_79 zcX6_run rfl rfl
theorem dX6_run_130 : decode cX6_run 130 = .ok (.return_, 1) := k_177 zcX6_run rfl rfl
theorem dX6_send_0 : decode cX6_send 0 = .ok (.iconst 0, 1) := k_3 zcX6_send rfl rfl
theorem dX6_send_1 : decode cX6_send 1 = .ok (.istore_n 1, 1) := k_60 zcX6_send rfl rfl
theorem dX6_send_2 : decode cX6_send 2 = .ok (.iconst 0, 1) := k_3 zcX6_send rfl rfl
theorem dX6_send_3 : decode cX6_send 3 = .ok (.istore_n 2, 1) := k_61 zcX6_send rfl rfl
theorem dX6_send_4 : decode cX6_send 4 = .ok (.iload_n 2, 1) := k_28 zcX6_send rfl rfl
theorem dX6_send_5 : decode cX6_send 5 = .ok (.iconst 4, 1) := k_7 zcX6_send rfl rfl
theorem dX6_send_6 : decode cX6_send 6 = .ok (.if_icmp .ge 66, 3) := k_162 zcX6_send rfl rfl rfl
theorem dX6_send_9 : decode cX6_send 9 = .ok (.iload_n 2, 1) := k_28 zcX6_send rfl rfl
theorem dX6_send_10 : decode cX6_send 10 = .ok (.istore_n 3, 1) := k_62 zcX6_send rfl rfl
theorem dX6_send_11 : decode cX6_send 11 = .ok (.iconst 0, 1) := k_3 zcX6_send rfl rfl
theorem dX6_send_12 : decode cX6_send 12 = .ok (.istore 4, 2) := k_54 zcX6_send rfl rfl rfl
theorem dX6_send_14 : decode cX6_send 14 = .ok (.iload 4, 2) := k_21 zcX6_send rfl rfl rfl
theorem dX6_send_16 : decode cX6_send 16 = .ok (.aload_n 0, 1) := k_42 zcX6_send rfl rfl
theorem dX6_send_17 : decode cX6_send 17 = .ok (.getfield 105, 3) := k_180 zcX6_send rfl rfl rfl
theorem dX6_send_20 : decode cX6_send 20 = .ok (.if_icmp .ge 33, 3) := k_162 zcX6_send rfl rfl rfl
theorem dX6_send_23 : decode cX6_send 23 = .ok (.aload_n 0, 1) := k_42 zcX6_send rfl rfl
theorem dX6_send_24 : decode cX6_send 24 = .ok (.getfield 25, 3) := k_180 zcX6_send rfl rfl rfl
theorem dX6_send_27 : decode cX6_send 27 = .ok (.aload_n 0, 1) := k_42 zcX6_send rfl rfl
theorem dX6_send_28 : decode cX6_send 28 = .ok (.getfield 28, 3) := k_180 zcX6_send rfl rfl rfl
theorem dX6_send_31 : decode cX6_send 31 = .ok (.iload 4, 2) := k_21 zcX6_send rfl rfl rfl
theorem dX6_send_33 : decode cX6_send 33 = .ok (.iaload, 1) := k_46 zcX6_send rfl rfl
theorem dX6_send_34 : decode cX6_send 34 = .ok (.bipush 8, 2) := k_16 zcX6_send rfl rfl rfl
theorem dX6_send_36 : decode cX6_send 36 = .ok (.invokestatic 164, 3) := k_184 zcX6_send rfl rfl rfl
theorem dX6_send_39 : decode cX6_send 39 = .ok (.iaload, 1) := k_46 zcX6_send rfl rfl
theorem dX6_send_40 : decode cX6_send 40 = .ok (.iconst 2, 1) := k_5 zcX6_send rfl rfl
theorem dX6_send_41 : decode cX6_send 41 = .ok (.iload_n 3, 1) := k_29 zcX6_send rfl rfl
theorem dX6_send_42 : decode cX6_send 42 = .ok (.imul, 1) := k_104 zcX6_send rfl rfl
theorem dX6_send_43 : decode cX6_send 43 = .ok (.ishr, 1) := k_122 zcX6_send rfl rfl
theorem dX6_send_44 : decode cX6_send 44 = .ok (.iconst 3, 1) := k_6 zcX6_send rfl rfl
theorem dX6_send_45 : decode cX6_send 45 = .ok (.iand, 1) := k_126 zcX6_send rfl rfl
theorem dX6_send_46 : decode cX6_send 46 = .ok (.istore_n 3, 1) := k_62 zcX6_send rfl rfl
theorem dX6_send_47 : decode cX6_send 47 = .ok (.iinc 4 1, 3) := k_132 zcX6_send rfl rfl rfl rfl
theorem dX6_send_50 : decode cX6_send 50 = .ok (.goto (-36), 3) := k_167 zcX6_send rfl rfl rfl
theorem dX6_send_53 : decode cX6_send 53 = .ok (.aload_n 0, 1) := k_42 zcX6_send rfl rfl
theorem dX6_send_54 : decode cX6_send 54 = .ok (.getfield 31, 3) := k_180 zcX6_send rfl rfl rfl
theorem dX6_send_57 : decode cX6_send 57 = .ok (.iload_n 2, 1) := k_28 zcX6_send rfl rfl
theorem dX6_send_58 : decode cX6_send 58 = .ok (.iload_n 3, 1) := k_29 zcX6_send rfl rfl
theorem dX6_send_59 : decode cX6_send 59 = .ok (.iastore, 1) := k_79 zcX6_send rfl rfl
theorem dX6_send_60 : decode cX6_send 60 = .ok (.iload_n 1, 1) := k_27 zcX6_send rfl rfl
theorem dX6_send_61 : decode cX6_send 61 = .ok (.iconst 1, 1) := k_4 zcX6_send rfl rfl
theorem dX6_send_62 : decode cX6_send 62 = .ok (.iload_n 3, 1) := k_29 zcX6_send rfl rfl
theorem dX6_send_63 : decode cX6_send 63 = .ok (.ishl, 1) := k_120 zcX6_send rfl rfl
theorem dX6_send_64 : decode cX6_send 64 = .ok (.ior, 1) := k_128 zcX6_send rfl rfl
theorem dX6_send_65 : decode cX6_send 65 = .ok (.istore_n 1, 1) := k_60 zcX6_send rfl rfl
theorem dX6_send_66 : decode cX6_send 66 = .ok (.iinc 2 1, 3) := k_132 zcX6_send rfl rfl rfl rfl
theorem dX6_send_69 : decode cX6_send 69 = .ok (.goto (-65), 3) := k_167 zcX6_send rfl rfl rfl
theorem dX6_send_72 : decode cX6_send 72 = .ok (.aload_n 0, 1) := k_42 zcX6_send rfl rfl
theorem dX6_send_73 : decode cX6_send 73 = .ok (.getfield 31, 3) := k_180 zcX6_send rfl rfl rfl
theorem dX6_send_76 : decode cX6_send 76 = .ok (.iconst 4, 1) := k_7 zcX6_send rfl rfl
theorem dX6_send_77 : decode cX6_send 77 = .ok (.iload_n 1, 1) := k_27 zcX6_send rfl rfl
theorem dX6_send_78 : decode cX6_send 78 = .ok (.invokestatic 167, 3) := k_184 zcX6_send rfl rfl rfl
theorem dX6_send_81 : decode cX6_send 81 = .ok (.iastore, 1) := k_79 zcX6_send rfl rfl
theorem dX6_send_82 : decode cX6_send 82 = .ok (.return_, 1) := k_177 zcX6_send rfl rfl
theorem dX6_bits_0 : decode cX6_bits 0 = .ok (.iconst 0, 1) := k_3 zcX6_bits rfl rfl
theorem dX6_bits_1 : decode cX6_bits 1 = .ok (.istore_n 1, 1) := k_60 zcX6_bits rfl rfl
theorem dX6_bits_2 : decode cX6_bits 2 = .ok (.iconst 0, 1) := k_3 zcX6_bits rfl rfl
theorem dX6_bits_3 : decode cX6_bits 3 = .ok (.istore_n 2, 1) := k_61 zcX6_bits rfl rfl
theorem dX6_bits_4 : decode cX6_bits 4 = .ok (.iload_n 2, 1) := k_28 zcX6_bits rfl rfl
theorem dX6_bits_5 : decode cX6_bits 5 = .ok (.iconst 4, 1) := k_7 zcX6_bits rfl rfl
theorem dX6_bits_6 : decode cX6_bits 6 = .ok (.if_icmp .ge 17, 3) := k_162 zcX6_bits rfl rfl rfl
theorem dX6_bits_9 : decode cX6_bits 9 = .ok (.iload_n 1, 1) := k_27 zcX6_bits rfl rfl
theorem dX6_bits_10 : decode cX6_bits 10 = .ok (.iload_n 0, 1) := k_26 zcX6_bits rfl rfl
theorem dX6_bits_11 : decode cX6_bits 11 = .ok (.iload_n 2, 1) := k_28 zcX6_bits rfl rfl
theorem dX6_bits_12 : decode cX6_bits 12 = .ok (.ishr, 1) := k_122 zcX6_bits rfl rfl
theorem dX6_bits_13 : decode cX6_bits 13 = .ok (.iconst 1, 1) := k_4 zcX6_bits rfl rfl
theorem dX6_bits_14 : decode cX6_bits 14 = .ok (.iand, 1) := k_126 zcX6_bits rfl rfl
theorem dX6_bits_15 : decode cX6_bits 15 = .ok (.iadd, 1) := k_96 zcX6_bits rfl rfl
theorem dX6_bits_16 : decode cX6_bits 16 = .ok (.istore_n 1, 1) := k_60 zcX6_bits rfl rfl
theorem dX6_bits_17 : decode cX6_bits 17 = .ok (.iinc 2 1, 3) := k_132 zcX6_bits rfl rfl rfl rfl
theorem dX6_bits_20 : decode cX6_bits 20 = .ok (.goto (-16), 3) := k_167 zcX6_bits rfl rfl rfl
theorem dX6_bits_23 : decode cX6_bits 23 = .ok (.iload_n 1, 1) := k_27 zcX6_bits rfl rfl
theorem dX6_bits_24 : decode cX6_bits 24 = .ok (.ireturn, 1) := k_172 zcX6_bits rfl rfl
theorem dX6_nest_0 : decode cX6_nest 0 = .ok (.iconst 0, 1) := k_3 zcX6_nest rfl rfl
theorem dX6_nest_1 : decode cX6_nest 1 = .ok (.istore_n 1, 1) := k_60 zcX6_nest rfl rfl
theorem dX6_nest_2 : decode cX6_nest 2 = .ok (.iconst 0, 1) := k_3 zcX6_nest rfl rfl
theorem dX6_nest_3 : decode cX6_nest 3 = .ok (.istore_n 2, 1) := k_61 zcX6_nest rfl rfl
theorem dX6_nest_4 : decode cX6_nest 4 = .ok (.iconst 0, 1) := k_3 zcX6_nest rfl rfl
theorem dX6_nest_5 : decode cX6_nest 5 = .ok (.istore_n 3, 1) := k_62 zcX6_nest rfl rfl
theorem dX6_nest_6 : decode cX6_nest 6 = .ok (.iconst 0, 1) := k_3 zcX6_nest rfl rfl
theorem dX6_nest_7 : decode cX6_nest 7 = .ok (.istore 4, 2) := k_54 zcX6_nest rfl rfl rfl
theorem dX6_nest_9 : decode cX6_nest 9 = .ok (.iconst 0, 1) := k_3 zcX6_nest rfl rfl
theorem dX6_nest_10 : decode cX6_nest 10 = .ok (.istore 5, 2) := k_54 zcX6_nest rfl rfl rfl
theorem dX6_nest_12 : decode cX6_nest 12 = .ok (.iconst 0, 1) := k_3 zcX6_nest rfl rfl
theorem dX6_nest_13 : decode cX6_nest 13 = .ok (.istore 6, 2) := k_54 zcX6_nest rfl rfl rfl
theorem dX6_nest_15 : decode cX6_nest 15 = .ok (.iload 6, 2) := k_21 zcX6_nest rfl rfl rfl
theorem dX6_nest_17 : decode cX6_nest 17 = .ok (.aload_n 0, 1) := k_42 zcX6_nest rfl rfl
theorem dX6_nest_18 : decode cX6_nest 18 = .ok (.getfield 105, 3) := k_180 zcX6_nest rfl rfl rfl
theorem dX6_nest_21 : decode cX6_nest 21 = .ok (.if_icmp .ge 72, 3) := k_162 zcX6_nest rfl rfl rfl
theorem dX6_nest_24 : decode cX6_nest 24 = .ok (.iload 4, 2) := k_21 zcX6_nest rfl rfl rfl
theorem dX6_nest_26 : decode cX6_nest 26 = .ok (.aload_n 0, 1) := k_42 zcX6_nest rfl rfl
theorem dX6_nest_27 : decode cX6_nest 27 = .ok (.getfield 28, 3) := k_180 zcX6_nest rfl rfl rfl
theorem dX6_nest_30 : decode cX6_nest 30 = .ok (.iload 6, 2) := k_21 zcX6_nest rfl rfl rfl
theorem dX6_nest_32 : decode cX6_nest 32 = .ok (.iaload, 1) := k_46 zcX6_nest rfl rfl
theorem dX6_nest_33 : decode cX6_nest 33 = .ok (.ifCond .ge 7, 3) := k_156 zcX6_nest rfl rfl rfl
theorem dX6_nest_36 : decode cX6_nest 36 = .ok (.iconst (-1), 1) := k_2 zcX6_nest rfl rfl
theorem dX6_nest_37 : decode cX6_nest 37 = .ok (.goto 4, 3) := k_167 zcX6_nest rfl rfl rfl
theorem dX6_nest_40 : decode cX6_nest 40 = .ok (.iconst 1, 1) := k_4 zcX6_nest rfl rfl
theorem dX6_nest_41 : decode cX6_nest 41 = .ok (.iadd, 1) := k_96 zcX6_nest rfl rfl
theorem dX6_nest_42 : decode cX6_nest 42 = .ok (.istore 4, 2) := k_54 zcX6_nest rfl rfl rfl
theorem dX6_nest_44 : decode cX6_nest 44 = .ok (.iload 4, 2) := k_21 zcX6_nest rfl rfl rfl
theorem dX6_nest_46 : decode cX6_nest 46 = .ok (.iload 5, 2) := k_21 zcX6_nest rfl rfl rfl
theorem dX6_nest_48 : decode cX6_nest 48 = .ok (.if_icmp .le 7, 3) := k_164 zcX6_nest rfl rfl rfl
theorem dX6_nest_51 : decode cX6_nest 51 = .ok (.iload 4, 2) := k_21 zcX6_nest rfl rfl rfl
theorem dX6_nest_53 : decode cX6_nest 53 = .ok (.istore 5, 2) := k_54 zcX6_nest rfl rfl rfl
theorem dX6_nest_55 : decode cX6_nest 55 = .ok (.aload_n 0, 1) := k_42 zcX6_nest rfl rfl
theorem dX6_nest_56 : decode cX6_nest 56 = .ok (.getfield 28, 3) := k_180 zcX6_nest rfl rfl rfl
theorem dX6_nest_59 : decode cX6_nest 59 = .ok (.iload 6, 2) := k_21 zcX6_nest rfl rfl rfl
theorem dX6_nest_61 : decode cX6_nest 61 = .ok (.iaload, 1) := k_46 zcX6_nest rfl rfl
theorem dX6_nest_62 : decode cX6_nest 62 = .ok (.ifCond .lt 9, 3) := k_155 zcX6_nest rfl rfl rfl
theorem dX6_nest_65 : decode cX6_nest 65 = .ok (.iinc 2 1, 3) := k_132 zcX6_nest rfl rfl rfl rfl
theorem dX6_nest_68 : decode cX6_nest 68 = .ok (.goto 19, 3) := k_167 zcX6_nest rfl rfl rfl
theorem dX6_nest_71 : decode cX6_nest 71 = .ok (.iload_n 2, 1) := k_28 zcX6_nest rfl rfl
theorem dX6_nest_72 : decode cX6_nest 72 = .ok (.ifCond .ne 9, 3) := k_154 zcX6_nest rfl rfl rfl
theorem dX6_nest_75 : decode cX6_nest 75 = .ok (.iinc 1 1, 3) := k_132 zcX6_nest rfl rfl rfl rfl
theorem dX6_nest_78 : decode cX6_nest 78 = .ok (.goto 9, 3) := k_167 zcX6_nest rfl rfl rfl
theorem dX6_nest_81 : decode cX6_nest 81 = .ok (.iinc 2 (-1), 3) := k_132 zcX6_nest rfl rfl rfl rfl
theorem dX6_nest_84 : decode cX6_nest 84 = .ok (.iinc 3 1, 3) := k_132 zcX6_nest rfl rfl rfl rfl
theorem dX6_nest_87 : decode cX6_nest 87 = .ok (.iinc 6 1, 3) := k_132 zcX6_nest rfl rfl rfl rfl
theorem dX6_nest_90 : decode cX6_nest 90 = .ok (.goto (-75), 3) := k_167 zcX6_nest rfl rfl rfl
theorem dX6_nest_93 : decode cX6_nest 93 = .ok (.aload_n 0, 1) := k_42 zcX6_nest rfl rfl
theorem dX6_nest_94 : decode cX6_nest 94 = .ok (.getfield 31, 3) := k_180 zcX6_nest rfl rfl rfl
theorem dX6_nest_97 : decode cX6_nest 97 = .ok (.iconst 0, 1) := k_3 zcX6_nest rfl rfl
theorem dX6_nest_98 : decode cX6_nest 98 = .ok (.iload_n 1, 1) := k_27 zcX6_nest rfl rfl
theorem dX6_nest_99 : decode cX6_nest 99 = .ok (.iastore, 1) := k_79 zcX6_nest rfl rfl
theorem dX6_nest_100 : decode cX6_nest 100 = .ok (.aload_n 0, 1) := k_42 zcX6_nest rfl rfl
theorem dX6_nest_101 : decode cX6_nest 101 = .ok (.getfield 31, 3) := k_180 zcX6_nest rfl rfl rfl
theorem dX6_nest_104 : decode cX6_nest 104 = .ok (.iconst 1, 1) := k_4 zcX6_nest rfl rfl
theorem dX6_nest_105 : decode cX6_nest 105 = .ok (.iload_n 2, 1) := k_28 zcX6_nest rfl rfl
theorem dX6_nest_106 : decode cX6_nest 106 = .ok (.iastore, 1) := k_79 zcX6_nest rfl rfl
theorem dX6_nest_107 : decode cX6_nest 107 = .ok (.aload_n 0, 1) := k_42 zcX6_nest rfl rfl
theorem dX6_nest_108 : decode cX6_nest 108 = .ok (.getfield 31, 3) := k_180 zcX6_nest rfl rfl rfl
theorem dX6_nest_111 : decode cX6_nest 111 = .ok (.iconst 2, 1) := k_5 zcX6_nest rfl rfl
theorem dX6_nest_112 : decode cX6_nest 112 = .ok (.iload_n 3, 1) := k_29 zcX6_nest rfl rfl
theorem dX6_nest_113 : decode cX6_nest 113 = .ok (.iastore, 1) := k_79 zcX6_nest rfl rfl
theorem dX6_nest_114 : decode cX6_nest 114 = .ok (.aload_n 0, 1) := k_42 zcX6_nest rfl rfl
theorem dX6_nest_115 : decode cX6_nest 115 = .ok (.getfield 31, 3) := k_180 zcX6_nest rfl rfl rfl
theorem dX6_nest_118 : decode cX6_nest 118 = .ok (.iconst 3, 1) := k_6 zcX6_nest rfl rfl
theorem dX6_nest_119 : decode cX6_nest 119 = .ok (.iload 5, 2) := k_21 zcX6_nest rfl rfl rfl
theorem dX6_nest_121 : decode cX6_nest 121 = .ok (.iastore, 1) := k_79 zcX6_nest rfl rfl
theorem dX6_nest_122 : decode cX6_nest 122 = .ok (.return_, 1) := k_177 zcX6_nest rfl rfl
theorem dX6_alikeFrom_0 : decode cX6_alikeFrom 0 = .ok (.iload_n 1, 1) := k_27 zcX6_alikeFrom rfl rfl
theorem dX6_alikeFrom_1 : decode cX6_alikeFrom 1 = .ok (.istore_n 2, 1) := k_61 zcX6_alikeFrom rfl rfl
theorem dX6_alikeFrom_2 : decode cX6_alikeFrom 2 = .ok (.iload_n 2, 1) := k_28 zcX6_alikeFrom rfl rfl
theorem dX6_alikeFrom_3 : decode cX6_alikeFrom 3 = .ok (.aload_n 0, 1) := k_42 zcX6_alikeFrom rfl rfl
theorem dX6_alikeFrom_4 : decode cX6_alikeFrom 4 = .ok (.getfield 105, 3) := k_180 zcX6_alikeFrom rfl rfl rfl
theorem dX6_alikeFrom_7 : decode cX6_alikeFrom 7 = .ok (.if_icmp .ge 24, 3) := k_162 zcX6_alikeFrom rfl rfl rfl
theorem dX6_alikeFrom_10 : decode cX6_alikeFrom 10 = .ok (.aload_n 0, 1) := k_42 zcX6_alikeFrom rfl rfl
theorem dX6_alikeFrom_11 : decode cX6_alikeFrom 11 = .ok (.getfield 28, 3) := k_180 zcX6_alikeFrom rfl rfl rfl
theorem dX6_alikeFrom_14 : decode cX6_alikeFrom 14 = .ok (.iload_n 2, 1) := k_28 zcX6_alikeFrom rfl rfl
theorem dX6_alikeFrom_15 : decode cX6_alikeFrom 15 = .ok (.iaload, 1) := k_46 zcX6_alikeFrom rfl rfl
theorem dX6_alikeFrom_16 : decode cX6_alikeFrom 16 = .ok (.aload_n 0, 1) := k_42 zcX6_alikeFrom rfl rfl
theorem dX6_alikeFrom_17 : decode cX6_alikeFrom 17 = .ok (.getfield 28, 3) := k_180 zcX6_alikeFrom rfl rfl rfl
theorem dX6_alikeFrom_20 : decode cX6_alikeFrom 20 = .ok (.iload_n 1, 1) := k_27 zcX6_alikeFrom rfl rfl
theorem dX6_alikeFrom_21 : decode cX6_alikeFrom 21 = .ok (.iaload, 1) := k_46 zcX6_alikeFrom rfl rfl
theorem dX6_alikeFrom_22 : decode cX6_alikeFrom 22 = .ok (.if_icmp .ne 9, 3) := k_160 zcX6_alikeFrom rfl rfl rfl
theorem dX6_alikeFrom_25 : decode cX6_alikeFrom 25 = .ok (.iinc 2 1, 3) := k_132 zcX6_alikeFrom rfl rfl rfl rfl
theorem dX6_alikeFrom_28 : decode cX6_alikeFrom 28 = .ok (.goto (-26), 3) := k_167 zcX6_alikeFrom rfl rfl rfl
theorem dX6_alikeFrom_31 : decode cX6_alikeFrom 31 = .ok (.iload_n 2, 1) := k_28 zcX6_alikeFrom rfl rfl
theorem dX6_alikeFrom_32 : decode cX6_alikeFrom 32 = .ok (.iload_n 1, 1) := k_27 zcX6_alikeFrom rfl rfl
theorem dX6_alikeFrom_33 : decode cX6_alikeFrom 33 = .ok (.isub, 1) := k_100 zcX6_alikeFrom rfl rfl
theorem dX6_alikeFrom_34 : decode cX6_alikeFrom 34 = .ok (.ireturn, 1) := k_172 zcX6_alikeFrom rfl rfl
theorem dX6_like_0 : decode cX6_like 0 = .ok (.iconst 0, 1) := k_3 zcX6_like rfl rfl
theorem dX6_like_1 : decode cX6_like 1 = .ok (.istore_n 1, 1) := k_60 zcX6_like rfl rfl
theorem dX6_like_2 : decode cX6_like 2 = .ok (.iconst 0, 1) := k_3 zcX6_like rfl rfl
theorem dX6_like_3 : decode cX6_like 3 = .ok (.istore_n 2, 1) := k_61 zcX6_like rfl rfl
theorem dX6_like_4 : decode cX6_like 4 = .ok (.iconst 0, 1) := k_3 zcX6_like rfl rfl
theorem dX6_like_5 : decode cX6_like 5 = .ok (.istore_n 3, 1) := k_62 zcX6_like rfl rfl
theorem dX6_like_6 : decode cX6_like 6 = .ok (.iconst 0, 1) := k_3 zcX6_like rfl rfl
theorem dX6_like_7 : decode cX6_like 7 = .ok (.istore 4, 2) := k_54 zcX6_like rfl rfl rfl
theorem dX6_like_9 : decode cX6_like 9 = .ok (.iconst 0, 1) := k_3 zcX6_like rfl rfl
theorem dX6_like_10 : decode cX6_like 10 = .ok (.istore 5, 2) := k_54 zcX6_like rfl rfl rfl
theorem dX6_like_12 : decode cX6_like 12 = .ok (.iload 5, 2) := k_21 zcX6_like rfl rfl rfl
theorem dX6_like_14 : decode cX6_like 14 = .ok (.aload_n 0, 1) := k_42 zcX6_like rfl rfl
theorem dX6_like_15 : decode cX6_like 15 = .ok (.getfield 105, 3) := k_180 zcX6_like rfl rfl rfl
theorem dX6_like_18 : decode cX6_like 18 = .ok (.if_icmp .ge 44, 3) := k_162 zcX6_like rfl rfl rfl
theorem dX6_like_21 : decode cX6_like 21 = .ok (.aload_n 0, 1) := k_42 zcX6_like rfl rfl
theorem dX6_like_22 : decode cX6_like 22 = .ok (.iload 5, 2) := k_21 zcX6_like rfl rfl rfl
theorem dX6_like_24 : decode cX6_like 24 = .ok (.invokevirtual 170, 3) := k_182 zcX6_like rfl rfl rfl
theorem dX6_like_27 : decode cX6_like 27 = .ok (.istore 4, 2) := k_54 zcX6_like rfl rfl rfl
theorem dX6_like_29 : decode cX6_like 29 = .ok (.iinc 1 1, 3) := k_132 zcX6_like rfl rfl rfl rfl
theorem dX6_like_32 : decode cX6_like 32 = .ok (.iload 4, 2) := k_21 zcX6_like rfl rfl rfl
theorem dX6_like_34 : decode cX6_like 34 = .ok (.iload_n 2, 1) := k_28 zcX6_like rfl rfl
theorem dX6_like_35 : decode cX6_like 35 = .ok (.if_icmp .gt 6, 3) := k_163 zcX6_like rfl rfl rfl
theorem dX6_like_38 : decode cX6_like 38 = .ok (.goto 14, 3) := k_167 zcX6_like rfl rfl rfl
theorem dX6_like_41 : decode cX6_like 41 = .ok (.iload 4, 2) := k_21 zcX6_like rfl rfl rfl
theorem dX6_like_43 : decode cX6_like 43 = .ok (.istore_n 2, 1) := k_61 zcX6_like rfl rfl
theorem dX6_like_44 : decode cX6_like 44 = .ok (.aload_n 0, 1) := k_42 zcX6_like rfl rfl
theorem dX6_like_45 : decode cX6_like 45 = .ok (.getfield 28, 3) := k_180 zcX6_like rfl rfl rfl
theorem dX6_like_48 : decode cX6_like 48 = .ok (.iload 5, 2) := k_21 zcX6_like rfl rfl rfl
theorem dX6_like_50 : decode cX6_like 50 = .ok (.iaload, 1) := k_46 zcX6_like rfl rfl
theorem dX6_like_51 : decode cX6_like 51 = .ok (.istore_n 3, 1) := k_62 zcX6_like rfl rfl
theorem dX6_like_52 : decode cX6_like 52 = .ok (.iload 5, 2) := k_21 zcX6_like rfl rfl rfl
theorem dX6_like_54 : decode cX6_like 54 = .ok (.iload 4, 2) := k_21 zcX6_like rfl rfl rfl
theorem dX6_like_56 : decode cX6_like 56 = .ok (.iadd, 1) := k_96 zcX6_like rfl rfl
theorem dX6_like_57 : decode cX6_like 57 = .ok (.istore 5, 2) := k_54 zcX6_like rfl rfl rfl
theorem dX6_like_59 : decode cX6_like 59 = .ok (.goto (-47), 3) := k_167 zcX6_like rfl rfl rfl
theorem dX6_like_62 : decode cX6_like 62 = .ok (.aload_n 0, 1) := k_42 zcX6_like rfl rfl
theorem dX6_like_63 : decode cX6_like 63 = .ok (.getfield 31, 3) := k_180 zcX6_like rfl rfl rfl
theorem dX6_like_66 : decode cX6_like 66 = .ok (.iconst 0, 1) := k_3 zcX6_like rfl rfl
theorem dX6_like_67 : decode cX6_like 67 = .ok (.iload_n 2, 1) := k_28 zcX6_like rfl rfl
theorem dX6_like_68 : decode cX6_like 68 = .ok (.iastore, 1) := k_79 zcX6_like rfl rfl
theorem dX6_like_69 : decode cX6_like 69 = .ok (.aload_n 0, 1) := k_42 zcX6_like rfl rfl
theorem dX6_like_70 : decode cX6_like 70 = .ok (.getfield 31, 3) := k_180 zcX6_like rfl rfl rfl
theorem dX6_like_73 : decode cX6_like 73 = .ok (.iconst 1, 1) := k_4 zcX6_like rfl rfl
theorem dX6_like_74 : decode cX6_like 74 = .ok (.iload_n 3, 1) := k_29 zcX6_like rfl rfl
theorem dX6_like_75 : decode cX6_like 75 = .ok (.iastore, 1) := k_79 zcX6_like rfl rfl
theorem dX6_like_76 : decode cX6_like 76 = .ok (.aload_n 0, 1) := k_42 zcX6_like rfl rfl
theorem dX6_like_77 : decode cX6_like 77 = .ok (.getfield 31, 3) := k_180 zcX6_like rfl rfl rfl
theorem dX6_like_80 : decode cX6_like 80 = .ok (.iconst 2, 1) := k_5 zcX6_like rfl rfl
theorem dX6_like_81 : decode cX6_like 81 = .ok (.iload_n 1, 1) := k_27 zcX6_like rfl rfl
theorem dX6_like_82 : decode cX6_like 82 = .ok (.iastore, 1) := k_79 zcX6_like rfl rfl
theorem dX6_like_83 : decode cX6_like 83 = .ok (.aload_n 0, 1) := k_42 zcX6_like rfl rfl
theorem dX6_like_84 : decode cX6_like 84 = .ok (.getfield 31, 3) := k_180 zcX6_like rfl rfl rfl
theorem dX6_like_87 : decode cX6_like 87 = .ok (.iconst 3, 1) := k_6 zcX6_like rfl rfl
theorem dX6_like_88 : decode cX6_like 88 = .ok (.aload_n 0, 1) := k_42 zcX6_like rfl rfl
theorem dX6_like_89 : decode cX6_like 89 = .ok (.iconst 0, 1) := k_3 zcX6_like rfl rfl
theorem dX6_like_90 : decode cX6_like 90 = .ok (.invokevirtual 170, 3) := k_182 zcX6_like rfl rfl rfl
theorem dX6_like_93 : decode cX6_like 93 = .ok (.iastore, 1) := k_79 zcX6_like rfl rfl
theorem dX6_like_94 : decode cX6_like 94 = .ok (.aload_n 0, 1) := k_42 zcX6_like rfl rfl
theorem dX6_like_95 : decode cX6_like 95 = .ok (.getfield 31, 3) := k_180 zcX6_like rfl rfl rfl
theorem dX6_like_98 : decode cX6_like 98 = .ok (.iconst 4, 1) := k_7 zcX6_like rfl rfl
theorem dX6_like_99 : decode cX6_like 99 = .ok (.iload 4, 2) := k_21 zcX6_like rfl rfl rfl
theorem dX6_like_101 : decode cX6_like 101 = .ok (.iastore, 1) := k_79 zcX6_like rfl rfl
theorem dX6_like_102 : decode cX6_like 102 = .ok (.aload_n 0, 1) := k_42 zcX6_like rfl rfl
theorem dX6_like_103 : decode cX6_like 103 = .ok (.getfield 31, 3) := k_180 zcX6_like rfl rfl rfl
theorem dX6_like_106 : decode cX6_like 106 = .ok (.iconst 5, 1) := k_8 zcX6_like rfl rfl
theorem dX6_like_107 : decode cX6_like 107 = .ok (.aload_n 0, 1) := k_42 zcX6_like rfl rfl
theorem dX6_like_108 : decode cX6_like 108 = .ok (.getfield 28, 3) := k_180 zcX6_like rfl rfl rfl
theorem dX6_like_111 : decode cX6_like 111 = .ok (.iconst 0, 1) := k_3 zcX6_like rfl rfl
theorem dX6_like_112 : decode cX6_like 112 = .ok (.iaload, 1) := k_46 zcX6_like rfl rfl
theorem dX6_like_113 : decode cX6_like 113 = .ok (.iastore, 1) := k_79 zcX6_like rfl rfl
theorem dX6_like_114 : decode cX6_like 114 = .ok (.aload_n 0, 1) := k_42 zcX6_like rfl rfl
theorem dX6_like_115 : decode cX6_like 115 = .ok (.getfield 31, 3) := k_180 zcX6_like rfl rfl rfl
theorem dX6_like_118 : decode cX6_like 118 = .ok (.bipush 6, 2) := k_16 zcX6_like rfl rfl rfl
theorem dX6_like_120 : decode cX6_like 120 = .ok (.aload_n 0, 1) := k_42 zcX6_like rfl rfl
theorem dX6_like_121 : decode cX6_like 121 = .ok (.getfield 28, 3) := k_180 zcX6_like rfl rfl rfl
theorem dX6_like_124 : decode cX6_like 124 = .ok (.aload_n 0, 1) := k_42 zcX6_like rfl rfl
theorem dX6_like_125 : decode cX6_like 125 = .ok (.getfield 105, 3) := k_180 zcX6_like rfl rfl rfl
theorem dX6_like_128 : decode cX6_like 128 = .ok (.iconst 1, 1) := k_4 zcX6_like rfl rfl
theorem dX6_like_129 : decode cX6_like 129 = .ok (.isub, 1) := k_100 zcX6_like rfl rfl
theorem dX6_like_130 : decode cX6_like 130 = .ok (.iaload, 1) := k_46 zcX6_like rfl rfl
theorem dX6_like_131 : decode cX6_like 131 = .ok (.iastore, 1) := k_79 zcX6_like rfl rfl
theorem dX6_like_132 : decode cX6_like 132 = .ok (.return_, 1) := k_177 zcX6_like rfl rfl
theorem dX6_steps_0 : decode cX6_steps 0 = .ok (.iconst 0, 1) := k_3 zcX6_steps rfl rfl
theorem dX6_steps_1 : decode cX6_steps 1 = .ok (.istore_n 1, 1) := k_60 zcX6_steps rfl rfl
theorem dX6_steps_2 : decode cX6_steps 2 = .ok (.iconst 0, 1) := k_3 zcX6_steps rfl rfl
theorem dX6_steps_3 : decode cX6_steps 3 = .ok (.istore_n 2, 1) := k_61 zcX6_steps rfl rfl
theorem dX6_steps_4 : decode cX6_steps 4 = .ok (.iconst 1, 1) := k_4 zcX6_steps rfl rfl
theorem dX6_steps_5 : decode cX6_steps 5 = .ok (.istore_n 3, 1) := k_62 zcX6_steps rfl rfl
theorem dX6_steps_6 : decode cX6_steps 6 = .ok (.iconst 1, 1) := k_4 zcX6_steps rfl rfl
theorem dX6_steps_7 : decode cX6_steps 7 = .ok (.istore 4, 2) := k_54 zcX6_steps rfl rfl rfl
theorem dX6_steps_9 : decode cX6_steps 9 = .ok (.iconst 1, 1) := k_4 zcX6_steps rfl rfl
theorem dX6_steps_10 : decode cX6_steps 10 = .ok (.istore 5, 2) := k_54 zcX6_steps rfl rfl rfl
theorem dX6_steps_12 : decode cX6_steps 12 = .ok (.iload 5, 2) := k_21 zcX6_steps rfl rfl rfl
theorem dX6_steps_14 : decode cX6_steps 14 = .ok (.aload_n 0, 1) := k_42 zcX6_steps rfl rfl
theorem dX6_steps_15 : decode cX6_steps 15 = .ok (.getfield 105, 3) := k_180 zcX6_steps rfl rfl rfl
theorem dX6_steps_18 : decode cX6_steps 18 = .ok (.if_icmp .ge 99, 3) := k_162 zcX6_steps rfl rfl rfl
theorem dX6_steps_21 : decode cX6_steps 21 = .ok (.iload_n 1, 1) := k_27 zcX6_steps rfl rfl
theorem dX6_steps_22 : decode cX6_steps 22 = .ok (.aload_n 0, 1) := k_42 zcX6_steps rfl rfl
theorem dX6_steps_23 : decode cX6_steps 23 = .ok (.getfield 28, 3) := k_180 zcX6_steps rfl rfl rfl
theorem dX6_steps_26 : decode cX6_steps 26 = .ok (.iload 5, 2) := k_21 zcX6_steps rfl rfl rfl
theorem dX6_steps_28 : decode cX6_steps 28 = .ok (.iaload, 1) := k_46 zcX6_steps rfl rfl
theorem dX6_steps_29 : decode cX6_steps 29 = .ok (.aload_n 0, 1) := k_42 zcX6_steps rfl rfl
theorem dX6_steps_30 : decode cX6_steps 30 = .ok (.getfield 28, 3) := k_180 zcX6_steps rfl rfl rfl
theorem dX6_steps_33 : decode cX6_steps 33 = .ok (.iload 5, 2) := k_21 zcX6_steps rfl rfl rfl
theorem dX6_steps_35 : decode cX6_steps 35 = .ok (.iconst 1, 1) := k_4 zcX6_steps rfl rfl
theorem dX6_steps_36 : decode cX6_steps 36 = .ok (.isub, 1) := k_100 zcX6_steps rfl rfl
theorem dX6_steps_37 : decode cX6_steps 37 = .ok (.iaload, 1) := k_46 zcX6_steps rfl rfl
theorem dX6_steps_38 : decode cX6_steps 38 = .ok (.if_icmp .ge 7, 3) := k_162 zcX6_steps rfl rfl rfl
theorem dX6_steps_41 : decode cX6_steps 41 = .ok (.iconst 1, 1) := k_4 zcX6_steps rfl rfl
