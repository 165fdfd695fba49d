theorem dX6_waterOf_23 : decode cX6_waterOf 23 = .ok (.iadd, 1) := by decide +kernel
theorem dX6_waterOf_24 : decode cX6_waterOf 24 = .ok (.invokevirtual 34, 3) := by decide +kernel
theorem dX6_waterOf_27 : decode cX6_waterOf 27 = .ok (.goto 11, 3) := by decide +kernel
theorem dX6_waterOf_30 : decode cX6_waterOf 30 = .ok (.aload_n 0, 1) := by decide +kernel
theorem dX6_waterOf_31 : decode cX6_waterOf 31 = .ok (.bipush 10, 2) := by decide +kernel
theorem dX6_waterOf_33 : decode cX6_waterOf 33 = .ok (.iload_n 1, 1) := by decide +kernel
theorem dX6_waterOf_34 : decode cX6_waterOf 34 = .ok (.iadd, 1) := by decide +kernel
theorem dX6_waterOf_35 : decode cX6_waterOf 35 = .ok (.invokevirtual 34, 3) := by decide +kernel
theorem dX6_waterOf_38 : decode cX6_waterOf 38 = .ok (.ireturn, 1) := by decide +kernel
theorem dX7_init_0 : decode cX7_init 0 = .ok (.aload_n 0, 1) := by decide +kernel
theorem dX7_init_1 : decode cX7_init 1 = .ok (.invokespecial 3, 3) := by decide +kernel
theorem dX7_init_4 : decode cX7_init 4 = .ok (.aload_n 0, 1) := by decide +kernel
theorem dX7_init_5 : decode cX7_init 5 = .ok (.bipush 25, 2) := by decide +kernel
theorem dX7_init_7 : decode cX7_init 7 = .ok (.newarray .int, 2) := by decide +kernel
theorem dX7_init_9 : decode cX7_init 9 = .ok (.putfield 9, 3) := by decide +kernel
theorem dX7_init_12 : decode cX7_init 12 = .ok (.aload_n 0, 1) := by decide +kernel
theorem dX7_init_13 : decode cX7_init 13 = .ok (.bipush 25, 2) := by decide +kernel
theorem dX7_init_15 : decode cX7_init 15 = .ok (.newarray .boolean, 2) := by decide +kernel
theorem dX7_init_17 : decode cX7_init 17 = .ok (.putfield 15, 3) := by decide +kernel
theorem dX7_init_20 : decode cX7_init 20 = .ok (.aload_n 0, 1) := by decide +kernel
theorem dX7_init_21 : decode cX7_init 21 = .ok (.iconst 2, 1) := by decide +kernel
theorem dX7_init_22 : decode cX7_init 22 = .ok (.newarray .int, 2) := by decide +kernel
theorem dX7_init_24 : decode cX7_init 24 = .ok (.putfield 19, 3) := by decide +kernel
theorem dX7_init_27 : decode cX7_init 27 = .ok (.return_, 1) := by decide +kernel
theorem dX7_vanish_0 : decode cX7_vanish 0 = .ok (.aload_n 0, 1) := by decide +kernel
theorem dX7_vanish_1 : decode cX7_vanish 1 = .ok (.iconst 0, 1) := by decide +kernel
theorem dX7_vanish_2 : decode cX7_vanish 2 = .ok (.putfield 22, 3) := by decide +kernel
theorem dX7_vanish_5 : decode cX7_vanish 5 = .ok (.aload_n 0, 1) := by decide +kernel
theorem dX7_vanish_6 : decode cX7_vanish 6 = .ok (.iconst 0, 1) := by decide +kernel
theorem dX7_vanish_7 : decode cX7_vanish 7 = .ok (.putfield 26, 3) := by decide +kernel
theorem dX7_vanish_10 : decode cX7_vanish 10 = .ok (.return_, 1) := by decide +kernel
theorem dX7_begin_0 : decode cX7_begin 0 = .ok (.aload_n 0, 1) := by decide +kernel
theorem dX7_begin_1 : decode cX7_begin 1 = .ok (.iload_n 1, 1) := by decide +kernel
theorem dX7_begin_2 : decode cX7_begin 2 = .ok (.putfield 29, 3) := by decide +kernel
theorem dX7_begin_5 : decode cX7_begin 5 = .ok (.aload_n 0, 1) := by decide +kernel
theorem dX7_begin_6 : decode cX7_begin 6 = .ok (.iload_n 2, 1) := by decide +kernel
theorem dX7_begin_7 : decode cX7_begin 7 = .ok (.putfield 33, 3) := by decide +kernel
theorem dX7_begin_10 : decode cX7_begin 10 = .ok (.aload_n 0, 1) := by decide +kernel
theorem dX7_begin_11 : decode cX7_begin 11 = .ok (.iload_n 3, 1) := by decide +kernel
theorem dX7_begin_12 : decode cX7_begin 12 = .ok (.putfield 36, 3) := by decide +kernel
theorem dX7_begin_15 : decode cX7_begin 15 = .ok (.aload_n 0, 1) := by decide +kernel
theorem dX7_begin_16 : decode cX7_begin 16 = .ok (.iload 4, 2) := by decide +kernel
theorem dX7_begin_18 : decode cX7_begin 18 = .ok (.putfield 39, 3) := by decide +kernel
theorem dX7_begin_21 : decode cX7_begin 21 = .ok (.aload_n 0, 1) := by decide +kernel
theorem dX7_begin_22 : decode cX7_begin 22 = .ok (.iconst 1, 1) := by decide +kernel
theorem dX7_begin_23 : decode cX7_begin 23 = .ok (.putfield 22, 3) := by decide +kernel
theorem dX7_begin_26 : decode cX7_begin 26 = .ok (.aload_n 0, 1) := by decide +kernel
theorem dX7_begin_27 : decode cX7_begin 27 = .ok (.iconst 1, 1) := by decide +kernel
theorem dX7_begin_28 : decode cX7_begin 28 = .ok (.putfield 26, 3) := by decide +kernel
theorem dX7_begin_31 : decode cX7_begin 31 = .ok (.return_, 1) := by decide +kernel
set_option maxRecDepth 20000 in
theorem ggX7_prepare_J7_fill_53178 : GoodIn wsX7_prepare wsJ7_fill_53178 := goodIn_r _ [15] (by decide +kernel) (by decide +kernel)
set_option maxRecDepth 20000 in
theorem gX7_prepare_J7_fill_53178 : GoodIn wsX7_prepare (va_wsS RX7 51 yJ7_fill_53178 wsJ7_fill_53178) := goodIn_app (goodIn_of _ (by decide +kernel)) ggX7_prepare_J7_fill_53178
set_option maxRecDepth 20000 in
theorem ggX7_prepare_X7_forgetVerdict : GoodIn wsX7_prepare wsX7_forgetVerdict := goodIn_r _ [20, 21, 22, 23, 24, 25, 26, 27, 28, 29, 30, 31, 32, 33, 34, 35, 36, 37, 38, 39] (by decide +kernel) (by decide +kernel)
set_option maxRecDepth 20000 in
theorem gX7_prepare_X7_forgetVerdict : GoodIn wsX7_prepare (wsV RX7 66 RX7 yX7_forgetVerdict wsX7_forgetVerdict) := goodIn_app (goodIn_of _ (by decide +kernel)) ggX7_prepare_X7_forgetVerdict
theorem dX7_prepare_0 : decode cX7_prepare 0 = .ok (.aload_n 0, 1) := by decide +kernel
theorem dX7_prepare_1 : decode cX7_prepare 1 = .ok (.iload_n 1, 1) := by decide +kernel
theorem dX7_prepare_2 : decode cX7_prepare 2 = .ok (.bipush 25, 2) := by decide +kernel
theorem dX7_prepare_4 : decode cX7_prepare 4 = .ok (.invokestatic 42, 3) := by decide +kernel
theorem dX7_prepare_7 : decode cX7_prepare 7 = .ok (.putfield 48, 3) := by decide +kernel
theorem dX7_prepare_10 : decode cX7_prepare 10 = .ok (.aload_n 0, 1) := by decide +kernel
theorem dX7_prepare_11 : decode cX7_prepare 11 = .ok (.getfield 9, 3) := by decide +kernel
theorem dX7_prepare_14 : decode cX7_prepare 14 = .ok (.iconst (-1), 1) := by decide +kernel
theorem dX7_prepare_15 : decode cX7_prepare 15 = .ok (.invokestatic 51, 3) := by decide +kernel
theorem dX7_prepare_18 : decode cX7_prepare 18 = .ok (.iconst 0, 1) := by decide +kernel
theorem dX7_prepare_19 : decode cX7_prepare 19 = .ok (.istore_n 3, 1) := by decide +kernel
theorem dX7_prepare_20 : decode cX7_prepare 20 = .ok (.iload_n 3, 1) := by decide +kernel
theorem dX7_prepare_21 : decode cX7_prepare 21 = .ok (.bipush 25, 2) := by decide +kernel
theorem dX7_prepare_23 : decode cX7_prepare 23 = .ok (.if_icmp .ge 16, 3) := by decide +kernel
theorem dX7_prepare_26 : decode cX7_prepare 26 = .ok (.aload_n 0, 1) := by decide +kernel
theorem dX7_prepare_27 : decode cX7_prepare 27 = .ok (.getfield 15, 3) := by decide +kernel
theorem dX7_prepare_30 : decode cX7_prepare 30 = .ok (.iload_n 3, 1) := by decide +kernel
theorem dX7_prepare_31 : decode cX7_prepare 31 = .ok (.iconst 0, 1) := by decide +kernel
theorem dX7_prepare_32 : decode cX7_prepare 32 = .ok (.bastore, 1) := by decide +kernel
theorem dX7_prepare_33 : decode cX7_prepare 33 = .ok (.iinc 3 1, 3) := by decide +kernel
theorem dX7_prepare_36 : decode cX7_prepare 36 = .ok (.goto (-16), 3) := by decide +kernel
theorem dX7_prepare_39 : decode cX7_prepare 39 = .ok (.aload_n 0, 1) := by decide +kernel
theorem dX7_prepare_40 : decode cX7_prepare 40 = .ok (.getfield 19, 3) := by decide +kernel
theorem dX7_prepare_43 : decode cX7_prepare 43 = .ok (.iload_n 2, 1) := by decide +kernel
theorem dX7_prepare_44 : decode cX7_prepare 44 = .ok (.invokestatic 51, 3) := by decide +kernel
theorem dX7_prepare_47 : decode cX7_prepare 47 = .ok (.aload_n 0, 1) := by decide +kernel
theorem dX7_prepare_48 : decode cX7_prepare 48 = .ok (.iconst 0, 1) := by decide +kernel
theorem dX7_prepare_49 : decode cX7_prepare 49 = .ok (.putfield 57, 3) := by decide +kernel
theorem dX7_prepare_52 : decode cX7_prepare 52 = .ok (.aload_n 0, 1) := by decide +kernel
theorem dX7_prepare_53 : decode cX7_prepare 53 = .ok (.iconst 0, 1) := by decide +kernel
theorem dX7_prepare_54 : decode cX7_prepare 54 = .ok (.putfield 60, 3) := by decide +kernel
theorem dX7_prepare_57 : decode cX7_prepare 57 = .ok (.aload_n 0, 1) := by decide +kernel
theorem dX7_prepare_58 : decode cX7_prepare 58 = .ok (.iconst 0, 1) := by decide +kernel
theorem dX7_prepare_59 : decode cX7_prepare 59 = .ok (.putfield 63, 3) := by decide +kernel
theorem dX7_prepare_62 : decode cX7_prepare 62 = .ok (.aload_n 0, 1) := by decide +kernel
theorem dX7_prepare_63 : decode cX7_prepare 63 = .ok (.invokevirtual 66, 3) := by decide +kernel
theorem dX7_prepare_66 : decode cX7_prepare 66 = .ok (.return_, 1) := by decide +kernel
theorem dX7_forgetVerdict_0 : decode cX7_forgetVerdict 0 = .ok (.aload_n 0, 1) := by decide +kernel
theorem dX7_forgetVerdict_1 : decode cX7_forgetVerdict 1 = .ok (.iconst (-1), 1) := by decide +kernel
theorem dX7_forgetVerdict_2 : decode cX7_forgetVerdict 2 = .ok (.putfield 69, 3) := by decide +kernel
theorem dX7_forgetVerdict_5 : decode cX7_forgetVerdict 5 = .ok (.aload_n 0, 1) := by decide +kernel
theorem dX7_forgetVerdict_6 : decode cX7_forgetVerdict 6 = .ok (.iconst (-1), 1) := by decide +kernel
theorem dX7_forgetVerdict_7 : decode cX7_forgetVerdict 7 = .ok (.putfield 72, 3) := by decide +kernel
theorem dX7_forgetVerdict_10 : decode cX7_forgetVerdict 10 = .ok (.aload_n 0, 1) := by decide +kernel
theorem dX7_forgetVerdict_11 : decode cX7_forgetVerdict 11 = .ok (.iconst (-1), 1) := by decide +kernel
theorem dX7_forgetVerdict_12 : decode cX7_forgetVerdict 12 = .ok (.putfield 75, 3) := by decide +kernel
theorem dX7_forgetVerdict_15 : decode cX7_forgetVerdict 15 = .ok (.return_, 1) := by decide +kernel
theorem dX7_hearWords_0 : decode cX7_hearWords 0 = .ok (.aload_n 0, 1) := by decide +kernel
theorem dX7_hearWords_1 : decode cX7_hearWords 1 = .ok (.getfield 26, 3) := by decide +kernel
theorem dX7_hearWords_4 : decode cX7_hearWords 4 = .ok (.ifCond .eq 29, 3) := by decide +kernel
theorem dX7_hearWords_7 : decode cX7_hearWords 7 = .ok (.aload_n 0, 1) := by decide +kernel
theorem dX7_hearWords_8 : decode cX7_hearWords 8 = .ok (.getfield 60, 3) := by decide +kernel
theorem dX7_hearWords_11 : decode cX7_hearWords 11 = .ok (.ifCond .ne 22, 3) := by decide +kernel
theorem dX7_hearWords_14 : decode cX7_hearWords 14 = .ok (.aload_n 0, 1) := by decide +kernel
theorem dX7_hearWords_15 : decode cX7_hearWords 15 = .ok (.getfield 63, 3) := by decide +kernel
theorem dX7_hearWords_18 : decode cX7_hearWords 18 = .ok (.ifCond .ne 15, 3) := by decide +kernel
theorem dX7_hearWords_21 : decode cX7_hearWords 21 = .ok (.iload_n 1, 1) := by decide +kernel
theorem dX7_hearWords_22 : decode cX7_hearWords 22 = .ok (.iconst 1, 1) := by decide +kernel
theorem dX7_hearWords_23 : decode cX7_hearWords 23 = .ok (.if_icmp .ne 13, 3) := by decide +kernel
theorem dX7_hearWords_26 : decode cX7_hearWords 26 = .ok (.aload_n 0, 1) := by decide +kernel
theorem dX7_hearWords_27 : decode cX7_hearWords 27 = .ok (.getfield 57, 3) := by decide +kernel
theorem dX7_hearWords_30 : decode cX7_hearWords 30 = .ok (.ifCond .ne 6, 3) := by decide +kernel
theorem dX7_hearWords_33 : decode cX7_hearWords 33 = .ok (.bipush (-4), 2) := by decide +kernel
theorem dX7_hearWords_35 : decode cX7_hearWords 35 = .ok (.ireturn, 1) := by decide +kernel
theorem dX7_hearWords_36 : decode cX7_hearWords 36 = .ok (.iload_n 1, 1) := by decide +kernel
theorem dX7_hearWords_37 : decode cX7_hearWords 37 = .ok (.ifCond .lt 22, 3) := by decide +kernel
theorem dX7_hearWords_40 : decode cX7_hearWords 40 = .ok (.iload_n 1, 1) := by decide +kernel
theorem dX7_hearWords_41 : decode cX7_hearWords 41 = .ok (.aload_n 0, 1) := by decide +kernel
theorem dX7_hearWords_42 : decode cX7_hearWords 42 = .ok (.getfield 19, 3) := by decide +kernel
theorem dX7_hearWords_45 : decode cX7_hearWords 45 = .ok (.arraylength, 1) := by decide +kernel
theorem dX7_hearWords_46 : decode cX7_hearWords 46 = .ok (.if_icmp .ge 13, 3) := by decide +kernel
theorem dX7_hearWords_49 : decode cX7_hearWords 49 = .ok (.iload_n 2, 1) := by decide +kernel
theorem dX7_hearWords_50 : decode cX7_hearWords 50 = .ok (.aload_n 0, 1) := by decide +kernel
theorem dX7_hearWords_51 : decode cX7_hearWords 51 = .ok (.getfield 19, 3) := by decide +kernel
theorem dX7_hearWords_54 : decode cX7_hearWords 54 = .ok (.iload_n 1, 1) := by decide +kernel
theorem dX7_hearWords_55 : decode cX7_hearWords 55 = .ok (.iaload, 1) := by decide +kernel
theorem dX7_hearWords_56 : decode cX7_hearWords 56 = .ok (.if_icmp .le 6, 3) := by decide +kernel
theorem dX7_hearWords_59 : decode cX7_hearWords 59 = .ok (.bipush (-4), 2) := by decide +kernel
theorem dX7_hearWords_61 : decode cX7_hearWords 61 = .ok (.ireturn, 1) := by decide +kernel
theorem dX7_hearWords_62 : decode cX7_hearWords 62 = .ok (.aload_n 0, 1) := by decide +kernel
theorem dX7_hearWords_63 : decode cX7_hearWords 63 = .ok (.iconst 1, 1) := by decide +kernel
theorem dX7_hearWords_64 : decode cX7_hearWords 64 = .ok (.putfield 57, 3) := by decide +kernel
theorem dX7_hearWords_67 : decode cX7_hearWords 67 = .ok (.aload_n 0, 1) := by decide +kernel
theorem dX7_hearWords_68 : decode cX7_hearWords 68 = .ok (.getfield 19, 3) := by decide +kernel
theorem dX7_hearWords_71 : decode cX7_hearWords 71 = .ok (.iload_n 1, 1) := by decide +kernel
theorem dX7_hearWords_72 : decode cX7_hearWords 72 = .ok (.dup2, 1) := by decide +kernel
theorem dX7_hearWords_73 : decode cX7_hearWords 73 = .ok (.iaload, 1) := by decide +kernel
theorem dX7_hearWords_74 : decode cX7_hearWords 74 = .ok (.iload_n 2, 1) := by decide +kernel
theorem dX7_hearWords_75 : decode cX7_hearWords 75 = .ok (.isub, 1) := by decide +kernel
theorem dX7_hearWords_76 : decode cX7_hearWords 76 = .ok (.iastore, 1) := by decide +kernel
theorem dX7_hearWords_77 : decode cX7_hearWords 77 = .ok (.aload_n 0, 1) := by decide +kernel
theorem dX7_hearWords_78 : decode cX7_hearWords 78 = .ok (.getfield 19, 3) := by decide +kernel
theorem dX7_hearWords_81 : decode cX7_hearWords 81 = .ok (.iload_n 1, 1) := by decide +kernel
theorem dX7_hearWords_82 : decode cX7_hearWords 82 = .ok (.iaload, 1) := by decide +kernel
theorem dX7_hearWords_83 : decode cX7_hearWords 83 = .ok (.ireturn, 1) := by decide +kernel
theorem dX7_turnWitness_0 : decode cX7_turnWitness 0 = .ok (.aload_n 0, 1) := by decide +kernel
theorem dX7_turnWitness_1 : decode cX7_turnWitness 1 = .ok (.getfield 26, 3) := by decide +kernel
theorem dX7_turnWitness_4 : decode cX7_turnWitness 4 = .ok (.ifCond .eq 10, 3) := by decide +kernel
theorem dX7_turnWitness_7 : decode cX7_turnWitness 7 = .ok (.aload_n 0, 1) := by decide +kernel
theorem dX7_turnWitness_8 : decode cX7_turnWitness 8 = .ok (.getfield 63, 3) := by decide +kernel
theorem dX7_turnWitness_11 : decode cX7_turnWitness 11 = .ok (.ifCond .eq 6, 3) := by decide +kernel
theorem dX7_turnWitness_14 : decode cX7_turnWitness 14 = .ok (.bipush (-4), 2) := by decide +kernel
theorem dX7_turnWitness_16 : decode cX7_turnWitness 16 = .ok (.ireturn, 1) := by decide +kernel
theorem dX7_turnWitness_17 : decode cX7_turnWitness 17 = .ok (.aload_n 0, 1) := by decide +kernel
theorem dX7_turnWitness_18 : decode cX7_turnWitness 18 = .ok (.aload_n 0, 1) := by decide +kernel
theorem dX7_turnWitness_19 : decode cX7_turnWitness 19 = .ok (.getfield 60, 3) := by decide +kernel
theorem dX7_turnWitness_22 : decode cX7_turnWitness 22 = .ok (.ifCond .ne 7, 3) := by decide +kernel
theorem dX7_turnWitness_25 : decode cX7_turnWitness 25 = .ok (.iconst 1, 1) := by decide +kernel
theorem dX7_turnWitness_26 : decode cX7_turnWitness 26 = .ok (.goto 4, 3) := by decide +kernel
theorem dX7_turnWitness_29 : decode cX7_turnWitness 29 = .ok (.iconst 0, 1) := by decide +kernel
theorem dX7_turnWitness_30 : decode cX7_turnWitness 30 = .ok (.putfield 60, 3) := by decide +kernel
theorem dX7_turnWitness_33 : decode cX7_turnWitness 33 = .ok (.aload_n 0, 1) := by decide +kernel
theorem dX7_turnWitness_34 : decode cX7_turnWitness 34 = .ok (.getfield 60, 3) := by decide +kernel
theorem dX7_turnWitness_37 : decode cX7_turnWitness 37 = .ok (.ifCond .eq 7, 3) := by decide +kernel
theorem dX7_turnWitness_40 : decode cX7_turnWitness 40 = .ok (.iconst 1, 1) := by decide +kernel
theorem dX7_turnWitness_41 : decode cX7_turnWitness 41 = .ok (.goto 4, 3) := by decide +kernel
theorem dX7_turnWitness_44 : decode cX7_turnWitness 44 = .ok (.iconst 0, 1) := by decide +kernel
theorem dX7_turnWitness_45 : decode cX7_turnWitness 45 = .ok (.ireturn, 1) := by decide +kernel
set_option maxRecDepth 20000 in
theorem ggX7_takeDisc_X7_wanting : GoodIn wsX7_takeDisc wsX7_wanting := goodIn_r _ [11, 3, 12, 13, 14, 10, 15, 16, 17, 18, 19, 4, 5, 20, 21, 22, 23, 24, 25, 26, 27, 28, 29, 30, 31, 32, 33, 34, 35, 36, 37, 38, 39] (by decide +kernel) (by decide +kernel)
set_option maxRecDepth 20000 in
theorem gX7_takeDisc_X7_wanting : GoodIn wsX7_takeDisc (wsV RX7 78 RX7 yX7_wanting wsX7_wanting) := goodIn_app (goodIn_of _ (by decide +kernel)) ggX7_takeDisc_X7_wanting
theorem dX7_takeDisc_0 : decode cX7_takeDisc 0 = .ok (.aload_n 0, 1) := by decide +kernel
theorem dX7_takeDisc_1 : decode cX7_takeDisc 1 = .ok (.getfield 26, 3) := by decide +kernel
theorem dX7_takeDisc_4 : decode cX7_takeDisc 4 = .ok (.ifCond .eq 22, 3) := by decide +kernel
theorem dX7_takeDisc_7 : decode cX7_takeDisc 7 = .ok (.aload_n 0, 1) := by decide +kernel
theorem dX7_takeDisc_8 : decode cX7_takeDisc 8 = .ok (.getfield 60, 3) := by decide +kernel
theorem dX7_takeDisc_11 : decode cX7_takeDisc 11 = .ok (.ifCond .ne 15, 3) := by decide +kernel
theorem dX7_takeDisc_14 : decode cX7_takeDisc 14 = .ok (.iload_n 1, 1) := by decide +kernel
theorem dX7_takeDisc_15 : decode cX7_takeDisc 15 = .ok (.ifCond .lt 11, 3) := by decide +kernel
theorem dX7_takeDisc_18 : decode cX7_takeDisc 18 = .ok (.iload_n 1, 1) := by decide +kernel
theorem dX7_takeDisc_19 : decode cX7_takeDisc 19 = .ok (.aload_n 0, 1) := by decide +kernel
theorem dX7_takeDisc_20 : decode cX7_takeDisc 20 = .ok (.getfield 48, 3) := by decide +kernel
theorem dX7_takeDisc_23 : decode cX7_takeDisc 23 = .ok (.if_icmp .lt 6, 3) := by decide +kernel
theorem dX7_takeDisc_26 : decode cX7_takeDisc 26 = .ok (.bipush (-4), 2) := by decide +kernel
theorem dX7_takeDisc_28 : decode cX7_takeDisc 28 = .ok (.ireturn, 1) := by decide +kernel
theorem dX7_takeDisc_29 : decode cX7_takeDisc 29 = .ok (.aload_n 0, 1) := by decide +kernel
theorem dX7_takeDisc_30 : decode cX7_takeDisc 30 = .ok (.getfield 15, 3) := by decide +kernel
theorem dX7_takeDisc_33 : decode cX7_takeDisc 33 = .ok (.iload_n 1, 1) := by decide +kernel
theorem dX7_takeDisc_34 : decode cX7_takeDisc 34 = .ok (.baload, 1) := by decide +kernel
theorem dX7_takeDisc_35 : decode cX7_takeDisc 35 = .ok (.ifCond .ne 13, 3) := by decide +kernel
theorem dX7_takeDisc_38 : decode cX7_takeDisc 38 = .ok (.aload_n 0, 1) := by decide +kernel
theorem dX7_takeDisc_39 : decode cX7_takeDisc 39 = .ok (.getfield 9, 3) := by decide +kernel
theorem dX7_takeDisc_42 : decode cX7_takeDisc 42 = .ok (.iload_n 1, 1) := by decide +kernel
theorem dX7_takeDisc_43 : decode cX7_takeDisc 43 = .ok (.iaload, 1) := by decide +kernel
theorem dX7_takeDisc_44 : decode cX7_takeDisc 44 = .ok (.iconst (-1), 1) := by decide +kernel
theorem dX7_takeDisc_45 : decode cX7_takeDisc 45 = .ok (.if_icmp .eq 6, 3) := by decide +kernel
theorem dX7_takeDisc_48 : decode cX7_takeDisc 48 = .ok (.bipush (-4), 2) := by decide +kernel
theorem dX7_takeDisc_50 : decode cX7_takeDisc 50 = .ok (.ireturn, 1) := by decide +kernel
theorem dX7_takeDisc_51 : decode cX7_takeDisc 51 = .ok (.aload_n 0, 1) := by decide +kernel
theorem dX7_takeDisc_52 : decode cX7_takeDisc 52 = .ok (.getfield 9, 3) := by decide +kernel
theorem dX7_takeDisc_55 : decode cX7_takeDisc 55 = .ok (.iload_n 1, 1) := by decide +kernel
theorem dX7_takeDisc_56 : decode cX7_takeDisc 56 = .ok (.iload_n 2, 1) := by decide +kernel
theorem dX7_takeDisc_57 : decode cX7_takeDisc 57 = .ok (.iastore, 1) := by decide +kernel
theorem dX7_takeDisc_58 : decode cX7_takeDisc 58 = .ok (.aload_n 0, 1) := by decide +kernel
theorem dX7_takeDisc_59 : decode cX7_takeDisc 59 = .ok (.iconst 1, 1) := by decide +kernel
theorem dX7_takeDisc_60 : decode cX7_takeDisc 60 = .ok (.putfield 63, 3) := by decide +kernel
theorem dX7_takeDisc_63 : decode cX7_takeDisc 63 = .ok (.aload_n 0, 1) := by decide +kernel
theorem dX7_takeDisc_64 : decode cX7_takeDisc 64 = .ok (.invokevirtual 78, 3) := by decide +kernel
theorem dX7_takeDisc_67 : decode cX7_takeDisc 67 = .ok (.ireturn, 1) := by decide +kernel
theorem dX7_strikeOut_0 : decode cX7_strikeOut 0 = .ok (.aload_n 0, 1) := by decide +kernel
theorem dX7_strikeOut_1 : decode cX7_strikeOut 1 = .ok (.getfield 26, 3) := by decide +kernel
theorem dX7_strikeOut_4 : decode cX7_strikeOut 4 = .ok (.ifCond .eq 22, 3) := by decide +kernel
theorem dX7_strikeOut_7 : decode cX7_strikeOut 7 = .ok (.iload_n 1, 1) := by decide +kernel
theorem dX7_strikeOut_8 : decode cX7_strikeOut 8 = .ok (.ifCond .lt 18, 3) := by decide +kernel
theorem dX7_strikeOut_11 : decode cX7_strikeOut 11 = .ok (.iload_n 1, 1) := by decide +kernel
theorem dX7_strikeOut_12 : decode cX7_strikeOut 12 = .ok (.aload_n 0, 1) := by decide +kernel
theorem dX7_strikeOut_13 : decode cX7_strikeOut 13 = .ok (.getfield 48, 3) := by decide +kernel
theorem dX7_strikeOut_16 : decode cX7_strikeOut 16 = .ok (.if_icmp .ge 10, 3) := by decide +kernel
theorem dX7_strikeOut_19 : decode cX7_strikeOut 19 = .ok (.aload_n 0, 1) := by decide +kernel
theorem dX7_strikeOut_20 : decode cX7_strikeOut 20 = .ok (.getfield 15, 3) := by decide +kernel
theorem dX7_strikeOut_23 : decode cX7_strikeOut 23 = .ok (.iload_n 1, 1) := by decide +kernel
theorem dX7_strikeOut_24 : decode cX7_strikeOut 24 = .ok (.iconst 1, 1) := by decide +kernel
theorem dX7_strikeOut_25 : decode cX7_strikeOut 25 = .ok (.bastore, 1) := by decide +kernel
theorem dX7_strikeOut_26 : decode cX7_strikeOut 26 = .ok (.return_, 1) := by decide +kernel
set_option maxRecDepth 20000 in
theorem ggX7_judge_X7_counted : GoodIn wsX7_judge wsX7_counted := goodIn_r _ [12, 13, 14, 15, 16, 11, 17, 18, 19, 34, 35, 36, 37, 38, 39, 40, 41, 42, 43, 44, 45, 46, 47, 48, 49] (by decide +kernel) (by decide +kernel)
set_option maxRecDepth 20000 in
theorem gX7_judge_X7_counted : GoodIn wsX7_judge (wsV RX7 82 RX7 yX7_counted wsX7_counted) := goodIn_app (goodIn_of _ (by decide +kernel)) ggX7_judge_X7_counted
set_option maxRecDepth 20000 in
theorem ggX7_judge_X7_convicting : GoodIn wsX7_judge wsX7_convicting := goodIn_r _ [23, 13, 19, 14, 15, 16, 11, 17, 18, 34, 35, 36, 37, 38, 39, 40, 41, 42, 43, 44, 45, 46, 47, 48, 49] (by decide +kernel) (by decide +kernel)
set_option maxRecDepth 20000 in
theorem gX7_judge_X7_convicting : GoodIn wsX7_judge (wsV RX7 85 RX7 yX7_convicting wsX7_convicting) := goodIn_app (goodIn_of _ (by decide +kernel)) ggX7_judge_X7_convicting
set_option maxRecDepth 20000 in
theorem ggX7_judge_X6_answer : GoodIn wsX7_judge wsX6_answer := goodIn_r _ [28, 29, 50, 51] (by decide +kernel) (by decide +kernel)
set_option maxRecDepth 20000 in
theorem gX7_judge_X6_answer : GoodIn wsX7_judge (wsV RX7 90 RX6 yX6_answer wsX6_answer) := goodIn_app (goodIn_of _ (by decide +kernel)) ggX7_judge_X6_answer
set_option maxRecDepth 20000 in
theorem ggX7_judge_X7_charge : GoodIn wsX7_judge wsX7_charge := goodIn_r _ [33, 2, 3, 34, 35, 36, 37, 38, 39, 40, 41, 42, 43, 44, 45, 46, 47, 48, 49] (by decide +kernel) (by decide +kernel)
set_option maxRecDepth 20000 in
theorem gX7_judge_X7_charge : GoodIn wsX7_judge (wsV RX7 94 RX7 yX7_charge wsX7_charge) := goodIn_app (goodIn_of _ (by decide +kernel)) ggX7_judge_X7_charge
theorem dX7_judge_0 : decode cX7_judge 0 = .ok (.aload_n 0, 1) := by decide +kernel
theorem dX7_judge_1 : decode cX7_judge 1 = .ok (.invokevirtual 82, 3) := by decide +kernel
theorem dX7_judge_4 : decode cX7_judge 4 = .ok (.istore_n 2, 1) := by decide +kernel
theorem dX7_judge_5 : decode cX7_judge 5 = .ok (.aload_n 0, 1) := by decide +kernel
theorem dX7_judge_6 : decode cX7_judge 6 = .ok (.invokevirtual 85, 3) := by decide +kernel
theorem dX7_judge_9 : decode cX7_judge 9 = .ok (.istore_n 3, 1) := by decide +kernel
theorem dX7_judge_10 : decode cX7_judge 10 = .ok (.aload_n 1, 1) := by decide +kernel
theorem dX7_judge_11 : decode cX7_judge 11 = .ok (.iconst 3, 1) := by decide +kernel
theorem dX7_judge_12 : decode cX7_judge 12 = .ok (.invokevirtual 90, 3) := by decide +kernel
theorem dX7_judge_15 : decode cX7_judge 15 = .ok (.iconst 1, 1) := by decide +kernel
theorem dX7_judge_16 : decode cX7_judge 16 = .ok (.if_icmp .ne 7, 3) := by decide +kernel
theorem dX7_judge_19 : decode cX7_judge 19 = .ok (.iconst 1, 1) := by decide +kernel
theorem dX7_judge_20 : decode cX7_judge 20 = .ok (.goto 4, 3) := by decide +kernel
theorem dX7_judge_23 : decode cX7_judge 23 = .ok (.iconst 0, 1) := by decide +kernel
theorem dX7_judge_24 : decode cX7_judge 24 = .ok (.istore 4, 2) := by decide +kernel
theorem dX7_judge_26 : decode cX7_judge 26 = .ok (.iconst 2, 1) := by decide +kernel
theorem dX7_judge_27 : decode cX7_judge 27 = .ok (.iload_n 3, 1) := by decide +kernel
theorem dX7_judge_28 : decode cX7_judge 28 = .ok (.imul, 1) := by decide +kernel
theorem dX7_judge_29 : decode cX7_judge 29 = .ok (.iload_n 2, 1) := by decide +kernel
theorem dX7_judge_30 : decode cX7_judge 30 = .ok (.if_icmp .gt 15, 3) := by decide +kernel
theorem dX7_judge_33 : decode cX7_judge 33 = .ok (.iload 4, 2) := by decide +kernel
theorem dX7_judge_35 : decode cX7_judge 35 = .ok (.ifCond .eq 14, 3) := by decide +kernel
theorem dX7_judge_38 : decode cX7_judge 38 = .ok (.iconst 2, 1) := by decide +kernel
theorem dX7_judge_39 : decode cX7_judge 39 = .ok (.iload_n 3, 1) := by decide +kernel
theorem dX7_judge_40 : decode cX7_judge 40 = .ok (.imul, 1) := by decide +kernel
theorem dX7_judge_41 : decode cX7_judge 41 = .ok (.iload_n 2, 1) := by decide +kernel
theorem dX7_judge_42 : decode cX7_judge 42 = .ok (.if_icmp .ne 7, 3) := by decide +kernel
theorem dX7_judge_45 : decode cX7_judge 45 = .ok (.iconst 1, 1) := by decide +kernel
theorem dX7_judge_46 : decode cX7_judge 46 = .ok (.goto 4, 3) := by decide +kernel
theorem dX7_judge_49 : decode cX7_judge 49 = .ok (.iconst 0, 1) := by decide +kernel
theorem dX7_judge_50 : decode cX7_judge 50 = .ok (.istore 5, 2) := by decide +kernel
theorem dX7_judge_52 : decode cX7_judge 52 = .ok (.aload_n 0, 1) := by decide +kernel
theorem dX7_judge_53 : decode cX7_judge 53 = .ok (.iload 5, 2) := by decide +kernel
theorem dX7_judge_55 : decode cX7_judge 55 = .ok (.ifCond .eq 7, 3) := by decide +kernel
theorem dX7_judge_58 : decode cX7_judge 58 = .ok (.iconst 1, 1) := by decide +kernel
theorem dX7_judge_59 : decode cX7_judge 59 = .ok (.goto 4, 3) := by decide +kernel
theorem dX7_judge_62 : decode cX7_judge 62 = .ok (.iconst 0, 1) := by decide +kernel
theorem dX7_judge_63 : decode cX7_judge 63 = .ok (.putfield 69, 3) := by decide +kernel
theorem dX7_judge_66 : decode cX7_judge 66 = .ok (.aload_n 0, 1) := by decide +kernel
theorem dX7_judge_67 : decode cX7_judge 67 = .ok (.iconst (-1), 1) := by decide +kernel
theorem dX7_judge_68 : decode cX7_judge 68 = .ok (.putfield 72, 3) := by decide +kernel
theorem dX7_judge_71 : decode cX7_judge 71 = .ok (.aload_n 0, 1) := by decide +kernel
theorem dX7_judge_72 : decode cX7_judge 72 = .ok (.iconst 0, 1) := by decide +kernel
theorem dX7_judge_73 : decode cX7_judge 73 = .ok (.putfield 75, 3) := by decide +kernel
theorem dX7_judge_76 : decode cX7_judge 76 = .ok (.iload 5, 2) := by decide +kernel
theorem dX7_judge_78 : decode cX7_judge 78 = .ok (.ifCond .eq 30, 3) := by decide +kernel
theorem dX7_judge_81 : decode cX7_judge 81 = .ok (.aload_n 0, 1) := by decide +kernel
theorem dX7_judge_82 : decode cX7_judge 82 = .ok (.aload_n 0, 1) := by decide +kernel
theorem dX7_judge_83 : decode cX7_judge 83 = .ok (.getfield 36, 3) := by decide +kernel
theorem dX7_judge_86 : decode cX7_judge 86 = .ok (.aload_n 1, 1) := by decide +kernel
theorem dX7_judge_87 : decode cX7_judge 87 = .ok (.bipush 40, 2) := by decide +kernel
theorem dX7_judge_89 : decode cX7_judge 89 = .ok (.aload_n 0, 1) := by decide +kernel
theorem dX7_judge_90 : decode cX7_judge 90 = .ok (.getfield 29, 3) := by decide +kernel
theorem dX7_judge_93 : decode cX7_judge 93 = .ok (.iadd, 1) := by decide +kernel
theorem dX7_judge_94 : decode cX7_judge 94 = .ok (.invokevirtual 90, 3) := by decide +kernel
theorem dX7_judge_97 : decode cX7_judge 97 = .ok (.aload_n 0, 1) := by decide +kernel
theorem dX7_judge_98 : decode cX7_judge 98 = .ok (.getfield 39, 3) := by decide +kernel
theorem dX7_judge_101 : decode cX7_judge 101 = .ok (.iadd, 1) := by decide +kernel
theorem dX7_judge_102 : decode cX7_judge 102 = .ok (.invokevirtual 94, 3) := by decide +kernel
theorem dX7_judge_105 : decode cX7_judge 105 = .ok (.goto 23, 3) := by decide +kernel
theorem dX7_judge_108 : decode cX7_judge 108 = .ok (.iconst 5, 1) := by decide +kernel
theorem dX7_judge_109 : decode cX7_judge 109 = .ok (.iload_n 3, 1) := by decide +kernel
theorem dX7_judge_110 : decode cX7_judge 110 = .ok (.imul, 1) := by decide +kernel
theorem dX7_judge_111 : decode cX7_judge 111 = .ok (.iload_n 2, 1) := by decide +kernel
theorem dX7_judge_112 : decode cX7_judge 112 = .ok (.if_icmp .ge 16, 3) := by decide +kernel
theorem dX7_judge_115 : decode cX7_judge 115 = .ok (.aload_n 0, 1) := by decide +kernel
theorem dX7_judge_116 : decode cX7_judge 116 = .ok (.aload_n 0, 1) := by decide +kernel
theorem dX7_judge_117 : decode cX7_judge 117 = .ok (.getfield 33, 3) := by decide +kernel
theorem dX7_judge_120 : decode cX7_judge 120 = .ok (.aload_n 1, 1) := by decide +kernel
theorem dX7_judge_121 : decode cX7_judge 121 = .ok (.iconst 2, 1) := by decide +kernel
theorem dX7_judge_122 : decode cX7_judge 122 = .ok (.invokevirtual 90, 3) := by decide +kernel
theorem dX7_judge_125 : decode cX7_judge 125 = .ok (.invokevirtual 94, 3) := by decide +kernel
theorem dX7_judge_128 : decode cX7_judge 128 = .ok (.return_, 1) := by decide +kernel
theorem dX7_charge_0 : decode cX7_charge 0 = .ok (.iload_n 2, 1) := by decide +kernel
theorem dX7_charge_1 : decode cX7_charge 1 = .ok (.ifCond .le 13, 3) := by decide +kernel
theorem dX7_charge_4 : decode cX7_charge 4 = .ok (.aload_n 0, 1) := by decide +kernel
theorem dX7_charge_5 : decode cX7_charge 5 = .ok (.iload_n 1, 1) := by decide +kernel
theorem dX7_charge_6 : decode cX7_charge 6 = .ok (.putfield 72, 3) := by decide +kernel
theorem dX7_charge_9 : decode cX7_charge 9 = .ok (.aload_n 0, 1) := by decide +kernel
theorem dX7_charge_10 : decode cX7_charge 10 = .ok (.iload_n 2, 1) := by decide +kernel
theorem dX7_charge_11 : decode cX7_charge 11 = .ok (.putfield 75, 3) := by decide +kernel
theorem dX7_charge_14 : decode cX7_charge 14 = .ok (.return_, 1) := by decide +kernel
theorem dX7_counts_0 : decode cX7_counts 0 = .ok (.iload_n 1, 1) := by decide +kernel
theorem dX7_counts_1 : decode cX7_counts 1 = .ok (.ifCond .lt 34, 3) := by decide +kernel
theorem dX7_counts_4 : decode cX7_counts 4 = .ok (.iload_n 1, 1) := by decide +kernel
theorem dX7_counts_5 : decode cX7_counts 5 = .ok (.aload_n 0, 1) := by decide +kernel
theorem dX7_counts_6 : decode cX7_counts 6 = .ok (.getfield 48, 3) := by decide +kernel
theorem dX7_counts_9 : decode cX7_counts 9 = .ok (.if_icmp .ge 26, 3) := by decide +kernel
theorem dX7_counts_12 : decode cX7_counts 12 = .ok (.aload_n 0, 1) := by decide +kernel
theorem dX7_counts_13 : decode cX7_counts 13 = .ok (.getfield 15, 3) := by decide +kernel
theorem dX7_counts_16 : decode cX7_counts 16 = .ok (.iload_n 1, 1) := by decide +kernel
theorem dX7_counts_17 : decode cX7_counts 17 = .ok (.baload, 1) := by decide +kernel
theorem dX7_counts_18 : decode cX7_counts 18 = .ok (.ifCond .ne 17, 3) := by decide +kernel
theorem dX7_counts_21 : decode cX7_counts 21 = .ok (.aload_n 0, 1) := by decide +kernel
theorem dX7_counts_22 : decode cX7_counts 22 = .ok (.getfield 9, 3) := by decide +kernel
theorem dX7_counts_25 : decode cX7_counts 25 = .ok (.iload_n 1, 1) := by decide +kernel
theorem dX7_counts_26 : decode cX7_counts 26 = .ok (.iaload, 1) := by decide +kernel
theorem dX7_counts_27 : decode cX7_counts 27 = .ok (.iconst (-1), 1) := by decide +kernel
theorem dX7_counts_28 : decode cX7_counts 28 = .ok (.if_icmp .eq 7, 3) := by decide +kernel
theorem dX7_counts_31 : decode cX7_counts 31 = .ok (.iconst 1, 1) := by decide +kernel
theorem dX7_counts_32 : decode cX7_counts 32 = .ok (.goto 4, 3) := by decide +kernel
theorem dX7_counts_35 : decode cX7_counts 35 = .ok (.iconst 0, 1) := by decide +kernel
theorem dX7_counts_36 : decode cX7_counts 36 = .ok (.ireturn, 1) := by decide +kernel
set_option maxRecDepth 20000 in
theorem ggX7_counted_X7_counts : GoodIn wsX7_counted wsX7_counts := goodIn_r _ [6, 1, 7, 8, 9, 10, 11, 12, 13, 14, 15, 16, 17, 18, 19, 20, 21, 22, 23, 24] (by decide +kernel) (by decide +kernel)
set_option maxRecDepth 20000 in
theorem gX7_counted_X7_counts : GoodIn wsX7_counted (wsV RX7 98 RX7 yX7_counts wsX7_counts) := goodIn_app (goodIn_of _ (by decide +kernel)) ggX7_counted_X7_counts
theorem dX7_counted_0 : decode cX7_counted 0 = .ok (.iconst 0, 1) := by decide +kernel
theorem dX7_counted_1 : decode cX7_counted 1 = .ok (.istore_n 1, 1) := by decide +kernel
theorem dX7_counted_2 : decode cX7_counted 2 = .ok (.iconst 0, 1) := by decide +kernel
theorem dX7_counted_3 : decode cX7_counted 3 = .ok (.istore_n 2, 1) := by decide +kernel
theorem dX7_counted_4 : decode cX7_counted 4 = .ok (.iload_n 2, 1) := by decide +kernel
theorem dX7_counted_5 : decode cX7_counted 5 = .ok (.aload_n 0, 1) := by decide +kernel
theorem dX7_counted_6 : decode cX7_counted 6 = .ok (.getfield 48, 3) := by decide +kernel
theorem dX7_counted_9 : decode cX7_counted 9 = .ok (.if_icmp .ge 25, 3) := by decide +kernel
theorem dX7_counted_12 : decode cX7_counted 12 = .ok (.iload_n 1, 1) := by decide +kernel
theorem dX7_counted_13 : decode cX7_counted 13 = .ok (.aload_n 0, 1) := by decide +kernel
theorem dX7_counted_14 : decode cX7_counted 14 = .ok (.iload_n 2, 1) := by decide +kernel
theorem dX7_counted_15 : decode cX7_counted 15 = .ok (.invokevirtual 98, 3) := by decide +kernel
theorem dX7_counted_18 : decode cX7_counted 18 = .ok (.ifCond .eq 7, 3) := by decide +kernel
theorem dX7_counted_21 : decode cX7_counted 21 = .ok (.iconst 1, 1) := by decide +kernel
theorem dX7_counted_22 : decode cX7_counted 22 = .ok (.goto 4, 3) := by decide +kernel
theorem dX7_counted_25 : decode cX7_counted 25 = .ok (.iconst 0, 1) := by decide +kernel
theorem dX7_counted_26 : decode cX7_counted 26 = .ok (.iadd, 1) := by decide +kernel
theorem dX7_counted_27 : decode cX7_counted 27 = .ok (.istore_n 1, 1) := by decide +kernel
theorem dX7_counted_28 : decode cX7_counted 28 = .ok (.iinc 2 1, 3) := by decide +kernel
theorem dX7_counted_31 : decode cX7_counted 31 = .ok (.goto (-27), 3) := by decide +kernel
theorem dX7_counted_34 : decode cX7_counted 34 = .ok (.iload_n 1, 1) := by decide +kernel
theorem dX7_counted_35 : decode cX7_counted 35 = .ok (.ireturn, 1) := by decide +kernel
set_option maxRecDepth 20000 in
theorem ggX7_convicting_X7_counts : GoodIn wsX7_convicting wsX7_counts := goodIn_r _ [7, 1, 8, 2, 9, 10, 11, 12, 13, 14, 15, 16, 17, 18, 19, 20, 21, 22, 23, 24] (by decide +kernel) (by decide +kernel)
set_option maxRecDepth 20000 in
theorem gX7_convicting_X7_counts : GoodIn wsX7_convicting (wsV RX7 98 RX7 yX7_counts wsX7_counts) := goodIn_app (goodIn_of _ (by decide +kernel)) ggX7_convicting_X7_counts
theorem dX7_convicting_0 : decode cX7_convicting 0 = .ok (.iconst 0, 1) := by decide +kernel
theorem dX7_convicting_1 : decode cX7_convicting 1 = .ok (.istore_n 1, 1) := by decide +kernel
theorem dX7_convicting_2 : decode cX7_convicting 2 = .ok (.iconst 0, 1) := by decide +kernel
theorem dX7_convicting_3 : decode cX7_convicting 3 = .ok (.istore_n 2, 1) := by decide +kernel
theorem dX7_convicting_4 : decode cX7_convicting 4 = .ok (.iload_n 2, 1) := by decide +kernel
theorem dX7_convicting_5 : decode cX7_convicting 5 = .ok (.aload_n 0, 1) := by decide +kernel
theorem dX7_convicting_6 : decode cX7_convicting 6 = .ok (.getfield 48, 3) := by decide +kernel
theorem dX7_convicting_9 : decode cX7_convicting 9 = .ok (.if_icmp .ge 35, 3) := by decide +kernel
theorem dX7_convicting_12 : decode cX7_convicting 12 = .ok (.iload_n 1, 1) := by decide +kernel
theorem dX7_convicting_13 : decode cX7_convicting 13 = .ok (.aload_n 0, 1) := by decide +kernel
theorem dX7_convicting_14 : decode cX7_convicting 14 = .ok (.iload_n 2, 1) := by decide +kernel
theorem dX7_convicting_15 : decode cX7_convicting 15 = .ok (.invokevirtual 98, 3) := by decide +kernel
theorem dX7_convicting_18 : decode cX7_convicting 18 = .ok (.ifCond .eq 17, 3) := by decide +kernel
theorem dX7_convicting_21 : decode cX7_convicting 21 = .ok (.aload_n 0, 1) := by decide +kernel
theorem dX7_convicting_22 : decode cX7_convicting 22 = .ok (.getfield 9, 3) := by decide +kernel
theorem dX7_convicting_25 : decode cX7_convicting 25 = .ok (.iload_n 2, 1) := by decide +kernel
theorem dX7_convicting_26 : decode cX7_convicting 26 = .ok (.iaload, 1) := by decide +kernel
theorem dX7_convicting_27 : decode cX7_convicting 27 = .ok (.iconst 1, 1) := by decide +kernel
theorem dX7_convicting_28 : decode cX7_convicting 28 = .ok (.if_icmp .ne 7, 3) := by decide +kernel
theorem dX7_convicting_31 : decode cX7_convicting 31 = .ok (.iconst 1, 1) := by decide +kernel
theorem dX7_convicting_32 : decode cX7_convicting 32 = .ok (.goto 4, 3) := by decide +kernel
theorem dX7_convicting_35 : decode cX7_convicting 35 = .ok (.iconst 0, 1) := by decide +kernel
theorem dX7_convicting_36 : decode cX7_convicting 36 = .ok (.iadd, 1) := by decide +kernel
theorem dX7_convicting_37 : decode cX7_convicting 37 = .ok (.istore_n 1, 1) := by decide +kernel
theorem dX7_convicting_38 : decode cX7_convicting 38 = .ok (.iinc 2 1, 3) := by decide +kernel
theorem dX7_convicting_41 : decode cX7_convicting 41 = .ok (.goto (-37), 3) := by decide +kernel
theorem dX7_convicting_44 : decode cX7_convicting 44 = .ok (.iload_n 1, 1) := by decide +kernel
theorem dX7_convicting_45 : decode cX7_convicting 45 = .ok (.ireturn, 1) := by decide +kernel
theorem dX7_struckOut_0 : decode cX7_struckOut 0 = .ok (.iconst 0, 1) := by decide +kernel
theorem dX7_struckOut_1 : decode cX7_struckOut 1 = .ok (.istore_n 1, 1) := by decide +kernel
theorem dX7_struckOut_2 : decode cX7_struckOut 2 = .ok (.iconst 0, 1) := by decide +kernel
theorem dX7_struckOut_3 : decode cX7_struckOut 3 = .ok (.istore_n 2, 1) := by decide +kernel
theorem dX7_struckOut_4 : decode cX7_struckOut 4 = .ok (.iload_n 2, 1) := by decide +kernel
theorem dX7_struckOut_5 : decode cX7_struckOut 5 = .ok (.aload_n 0, 1) := by decide +kernel
theorem dX7_struckOut_6 : decode cX7_struckOut 6 = .ok (.getfield 48, 3) := by decide +kernel
theorem dX7_struckOut_9 : decode cX7_struckOut 9 = .ok (.if_icmp .ge 26, 3) := by decide +kernel
theorem dX7_struckOut_12 : decode cX7_struckOut 12 = .ok (.iload_n 1, 1) := by decide +kernel
theorem dX7_struckOut_13 : decode cX7_struckOut 13 = .ok (.aload_n 0, 1) := by decide +kernel
theorem dX7_struckOut_14 : decode cX7_struckOut 14 = .ok (.getfield 15, 3) := by decide +kernel
theorem dX7_struckOut_17 : decode cX7_struckOut 17 = .ok (.iload_n 2, 1) := by decide +kernel
theorem dX7_struckOut_18 : decode cX7_struckOut 18 = .ok (.baload, 1) := by decide +kernel
theorem dX7_struckOut_19 : decode cX7_struckOut 19 = .ok (.ifCond .eq 7, 3) := by decide +kernel
theorem dX7_struckOut_22 : decode cX7_struckOut 22 = .ok (.iconst 1, 1) := by decide +kernel
theorem dX7_struckOut_23 : decode cX7_struckOut 23 = .ok (.goto 4, 3) := by decide +kernel
theorem dX7_struckOut_26 : decode cX7_struckOut 26 = .ok (.iconst 0, 1) := by decide +kernel
theorem dX7_struckOut_27 : decode cX7_struckOut 27 = .ok (.iadd, 1) := by decide +kernel
theorem dX7_struckOut_28 : decode cX7_struckOut 28 = .ok (.istore_n 1, 1) := by decide +kernel
theorem dX7_struckOut_29 : decode cX7_struckOut 29 = .ok (.iinc 2 1, 3) := by decide +kernel
theorem dX7_struckOut_32 : decode cX7_struckOut 32 = .ok (.goto (-28), 3) := by decide +kernel
theorem dX7_struckOut_35 : decode cX7_struckOut 35 = .ok (.iload_n 1, 1) := by decide +kernel
theorem dX7_struckOut_36 : decode cX7_struckOut 36 = .ok (.ireturn, 1) := by decide +kernel
set_option maxRecDepth 20000 in
theorem ggX7_wanting_X7_counted : GoodIn wsX7_wanting wsX7_counted := goodIn_r _ [6, 1, 7, 8, 9, 5, 10, 11, 12, 17, 18, 19, 20, 21, 22, 23, 24, 25, 26, 27, 28, 29, 30, 31, 32] (by decide +kernel) (by decide +kernel)
set_option maxRecDepth 20000 in
theorem gX7_wanting_X7_counted : GoodIn wsX7_wanting (wsV RX7 82 RX7 yX7_counted wsX7_counted) := goodIn_app (goodIn_of _ (by decide +kernel)) ggX7_wanting_X7_counted
set_option maxRecDepth 20000 in
theorem ggX7_wanting_X7_struckOut : GoodIn wsX7_wanting wsX7_struckOut := goodIn_r _ [16, 1, 11, 17, 18, 19, 20, 21, 22, 23, 24, 25, 26, 27, 28, 29, 30, 31, 32] (by decide +kernel) (by decide +kernel)
set_option maxRecDepth 20000 in
theorem gX7_wanting_X7_struckOut : GoodIn wsX7_wanting (wsV RX7 102 RX7 yX7_struckOut wsX7_struckOut) := goodIn_app (goodIn_of _ (by decide +kernel)) ggX7_wanting_X7_struckOut
theorem dX7_wanting_0 : decode cX7_wanting 0 = .ok (.aload_n 0, 1) := by decide +kernel
theorem dX7_wanting_1 : decode cX7_wanting 1 = .ok (.getfield 48, 3) := by decide +kernel
theorem dX7_wanting_4 : decode cX7_wanting 4 = .ok (.aload_n 0, 1) := by decide +kernel
theorem dX7_wanting_5 : decode cX7_wanting 5 = .ok (.invokevirtual 82, 3) := by decide +kernel
theorem dX7_wanting_8 : decode cX7_wanting 8 = .ok (.isub, 1) := by decide +kernel
theorem dX7_wanting_9 : decode cX7_wanting 9 = .ok (.aload_n 0, 1) := by decide +kernel
theorem dX7_wanting_10 : decode cX7_wanting 10 = .ok (.invokevirtual 102, 3) := by decide +kernel
theorem dX7_wanting_13 : decode cX7_wanting 13 = .ok (.isub, 1) := by decide +kernel
theorem dX7_wanting_14 : decode cX7_wanting 14 = .ok (.ireturn, 1) := by decide +kernel
set_option maxRecDepth 20000 in
theorem ggX7_answer_X7_counted : GoodIn wsX7_answer wsX7_counted := goodIn_r _ [15, 16, 17, 18, 19, 14, 20, 21, 22, 35, 36, 37, 38, 39, 40, 41, 42, 43, 44, 45, 46, 47, 48, 49, 50] (by decide +kernel) (by decide +kernel)
set_option maxRecDepth 20000 in
theorem gX7_answer_X7_counted : GoodIn wsX7_answer (wsV RX7 82 RX7 yX7_counted wsX7_counted) := goodIn_app (goodIn_of _ (by decide +kernel)) ggX7_answer_X7_counted
set_option maxRecDepth 20000 in
theorem ggX7_answer_X7_wanting : GoodIn wsX7_answer wsX7_wanting := goodIn_r _ [26, 16, 11, 12, 13, 14, 15, 17, 18, 19, 20, 21, 22, 27, 28, 29, 30, 35, 36, 37, 38, 39, 40, 41, 42, 43, 44, 45, 46, 47, 48, 49, 50] (by decide +kernel) (by decide +kernel)
set_option maxRecDepth 20000 in
theorem gX7_answer_X7_wanting : GoodIn wsX7_answer (wsV RX7 78 RX7 yX7_wanting wsX7_wanting) := goodIn_app (goodIn_of _ (by decide +kernel)) ggX7_answer_X7_wanting
set_option maxRecDepth 20000 in
theorem ggX7_answer_X7_convicting : GoodIn wsX7_answer wsX7_convicting := goodIn_r _ [34, 16, 22, 17, 18, 19, 14, 20, 21, 35, 36, 37, 38, 39, 40, 41, 42, 43, 44, 45, 46, 47, 48, 49, 50] (by decide +kernel) (by decide +kernel)
set_option maxRecDepth 20000 in
theorem gX7_answer_X7_convicting : GoodIn wsX7_answer (wsV RX7 85 RX7 yX7_convicting wsX7_convicting) := goodIn_app (goodIn_of _ (by decide +kernel)) ggX7_answer_X7_convicting
set_option maxRecDepth 20000 in
theorem ggX7_answer_X7_struckOut : GoodIn wsX7_answer wsX7_struckOut := goodIn_r _ [30, 16, 21, 35, 36, 37, 38, 39, 40, 41, 42, 43, 44, 45, 46, 47, 48, 49, 50] (by decide +kernel) (by decide +kernel)
set_option maxRecDepth 20000 in
theorem gX7_answer_X7_struckOut : GoodIn wsX7_answer (wsV RX7 102 RX7 yX7_struckOut wsX7_struckOut) := goodIn_app (goodIn_of _ (by decide +kernel)) ggX7_answer_X7_struckOut
theorem dX7_answer_0 : decode cX7_answer 0 = .ok (.aload_n 0, 1) := by decide +kernel
theorem dX7_answer_1 : decode cX7_answer 1 = .ok (.getfield 22, 3) := by decide +kernel
theorem dX7_answer_4 : decode cX7_answer 4 = .ok (.ifCond .ne 5, 3) := by decide +kernel
theorem dX7_answer_7 : decode cX7_answer 7 = .ok (.iconst (-1), 1) := by decide +kernel
theorem dX7_answer_8 : decode cX7_answer 8 = .ok (.ireturn, 1) := by decide +kernel
theorem dX7_answer_9 : decode cX7_answer 9 = .ok (.iload_n 1, 1) := by decide +kernel
theorem dX7_answer_10 : decode cX7_answer 10 = .ok (.tableswitch 144 3 14 #[62, 67, 72, 77, 82, 89, 96, 101, 124, 129, 134, 139], 62) := by decide +kernel
theorem dX7_answer_72 : decode cX7_answer 72 = .ok (.aload_n 0, 1) := by decide +kernel
theorem dX7_answer_73 : decode cX7_answer 73 = .ok (.getfield 29, 3) := by decide +kernel
theorem dX7_answer_76 : decode cX7_answer 76 = .ok (.ireturn, 1) := by decide +kernel
theorem dX7_answer_77 : decode cX7_answer 77 = .ok (.aload_n 0, 1) := by decide +kernel
theorem dX7_answer_78 : decode cX7_answer 78 = .ok (.getfield 33, 3) := by decide +kernel
theorem dX7_answer_81 : decode cX7_answer 81 = .ok (.ireturn, 1) := by decide +kernel
theorem dX7_answer_82 : decode cX7_answer 82 = .ok (.aload_n 0, 1) := by decide +kernel
theorem dX7_answer_83 : decode cX7_answer 83 = .ok (.getfield 36, 3) := by decide +kernel
theorem dX7_answer_86 : decode cX7_answer 86 = .ok (.ireturn, 1) := by decide +kernel
theorem dX7_answer_87 : decode cX7_answer 87 = .ok (.aload_n 0, 1) := by decide +kernel
theorem dX7_answer_88 : decode cX7_answer 88 = .ok (.getfield 39, 3) := by decide +kernel
theorem dX7_answer_91 : decode cX7_answer 91 = .ok (.ireturn, 1) := by decide +kernel
theorem dX7_answer_92 : decode cX7_answer 92 = .ok (.aload_n 0, 1) := by decide +kernel
theorem dX7_answer_93 : decode cX7_answer 93 = .ok (.getfield 19, 3) := by decide +kernel
theorem dX7_answer_96 : decode cX7_answer 96 = .ok (.iconst 0, 1) := by decide +kernel
theorem dX7_answer_97 : decode cX7_answer 97 = .ok (.iaload, 1) := by decide +kernel
theorem dX7_answer_98 : decode cX7_answer 98 = .ok (.ireturn, 1) := by decide +kernel
theorem dX7_answer_99 : decode cX7_answer 99 = .ok (.aload_n 0, 1) := by decide +kernel
theorem dX7_answer_100 : decode cX7_answer 100 = .ok (.getfield 19, 3) := by decide +kernel
theorem dX7_answer_103 : decode cX7_answer 103 = .ok (.iconst 1, 1) := by decide +kernel
theorem dX7_answer_104 : decode cX7_answer 104 = .ok (.iaload, 1) := by decide +kernel
theorem dX7_answer_105 : decode cX7_answer 105 = .ok (.ireturn, 1) := by decide +kernel
theorem dX7_answer_106 : decode cX7_answer 106 = .ok (.aload_n 0, 1) := by decide +kernel
theorem dX7_answer_107 : decode cX7_answer 107 = .ok (.invokevirtual 82, 3) := by decide +kernel
theorem dX7_answer_110 : decode cX7_answer 110 = .ok (.ireturn, 1) := by decide +kernel
theorem dX7_answer_111 : decode cX7_answer 111 = .ok (.aload_n 0, 1) := by decide +kernel
theorem dX7_answer_112 : decode cX7_answer 112 = .ok (.getfield 26, 3) := by decide +kernel
theorem dX7_answer_115 : decode cX7_answer 115 = .ok (.ifCond .eq 14, 3) := by decide +kernel
theorem dX7_answer_118 : decode cX7_answer 118 = .ok (.aload_n 0, 1) := by decide +kernel
theorem dX7_answer_119 : decode cX7_answer 119 = .ok (.invokevirtual 78, 3) := by decide +kernel
theorem dX7_answer_122 : decode cX7_answer 122 = .ok (.ifCond .le 7, 3) := by decide +kernel
theorem dX7_answer_125 : decode cX7_answer 125 = .ok (.iconst (-1), 1) := by decide +kernel
theorem dX7_answer_126 : decode cX7_answer 126 = .ok (.goto 7, 3) := by decide +kernel
theorem dX7_answer_129 : decode cX7_answer 129 = .ok (.aload_n 0, 1) := by decide +kernel
theorem dX7_answer_130 : decode cX7_answer 130 = .ok (.invokevirtual 85, 3) := by decide +kernel
theorem dX7_answer_133 : decode cX7_answer 133 = .ok (.ireturn, 1) := by decide +kernel
theorem dX7_answer_134 : decode cX7_answer 134 = .ok (.aload_n 0, 1) := by decide +kernel
theorem dX7_answer_135 : decode cX7_answer 135 = .ok (.invokevirtual 102, 3) := by decide +kernel
theorem dX7_answer_138 : decode cX7_answer 138 = .ok (.ireturn, 1) := by decide +kernel
theorem dX7_answer_139 : decode cX7_answer 139 = .ok (.aload_n 0, 1) := by decide +kernel
theorem dX7_answer_140 : decode cX7_answer 140 = .ok (.getfield 69, 3) := by decide +kernel
theorem dX7_answer_143 : decode cX7_answer 143 = .ok (.ireturn, 1) := by decide +kernel
theorem dX7_answer_144 : decode cX7_answer 144 = .ok (.aload_n 0, 1) := by decide +kernel
theorem dX7_answer_145 : decode cX7_answer 145 = .ok (.getfield 72, 3) := by decide +kernel
theorem dX7_answer_148 : decode cX7_answer 148 = .ok (.ireturn, 1) := by decide +kernel
theorem dX7_answer_149 : decode cX7_answer 149 = .ok (.aload_n 0, 1) := by decide +kernel
theorem dX7_answer_150 : decode cX7_answer 150 = .ok (.getfield 75, 3) := by decide +kernel
theorem dX7_answer_153 : decode cX7_answer 153 = .ok (.ireturn, 1) := by decide +kernel
theorem dX7_answer_154 : decode cX7_answer 154 = .ok (.iconst (-1), 1) := by decide +kernel
theorem dX7_answer_155 : decode cX7_answer 155 = .ok (.ireturn, 1) := by decide +kernel
theorem dX8_init_0 : decode cX8_init 0 = .ok (.aload_n 0, 1) := by decide +kernel
theorem dX8_init_1 : decode cX8_init 1 = .ok (.invokespecial 1, 3) := by decide +kernel
theorem dX8_init_4 : decode cX8_init 4 = .ok (.aload_n 0, 1) := by decide +kernel
theorem dX8_init_5 : decode cX8_init 5 = .ok (.sipush 1000, 3) := by decide +kernel
theorem dX8_init_8 : decode cX8_init 8 = .ok (.newarray .byte, 2) := by decide +kernel
theorem dX8_init_10 : decode cX8_init 10 = .ok (.putfield 9, 3) := by decide +kernel
theorem dX8_init_13 : decode cX8_init 13 = .ok (.return_, 1) := by decide +kernel
theorem dX8_append_0 : decode cX8_append 0 = .ok (.bipush 24, 2) := by decide +kernel
theorem dX8_append_2 : decode cX8_append 2 = .ok (.istore_n 2, 1) := by decide +kernel
theorem dX8_append_3 : decode cX8_append 3 = .ok (.iload_n 2, 1) := by decide +kernel
theorem dX8_append_4 : decode cX8_append 4 = .ok (.ifCond .lt 42, 3) := by decide +kernel
theorem dX8_append_7 : decode cX8_append 7 = .ok (.aload_n 0, 1) := by decide +kernel
theorem dX8_append_8 : decode cX8_append 8 = .ok (.getfield 13, 3) := by decide +kernel
theorem dX8_append_11 : decode cX8_append 11 = .ok (.sipush 1000, 3) := by decide +kernel
theorem dX8_append_14 : decode cX8_append 14 = .ok (.if_icmp .ge 26, 3) := by decide +kernel
theorem dX8_append_17 : decode cX8_append 17 = .ok (.aload_n 0, 1) := by decide +kernel
theorem dX8_append_18 : decode cX8_append 18 = .ok (.getfield 9, 3) := by decide +kernel
theorem dX8_append_21 : decode cX8_append 21 = .ok (.aload_n 0, 1) := by decide +kernel
theorem dX8_append_22 : decode cX8_append 22 = .ok (.getfield 13, 3) := by decide +kernel
theorem dX8_append_25 : decode cX8_append 25 = .ok (.iload_n 1, 1) := by decide +kernel
theorem dX8_append_26 : decode cX8_append 26 = .ok (.iload_n 2, 1) := by decide +kernel
theorem dX8_append_27 : decode cX8_append 27 = .ok (.ishr, 1) := by decide +kernel
theorem dX8_append_28 : decode cX8_append 28 = .ok (.i2b, 1) := by decide +kernel
theorem dX8_append_29 : decode cX8_append 29 = .ok (.bastore, 1) := by decide +kernel
theorem dX8_append_30 : decode cX8_append 30 = .ok (.aload_n 0, 1) := by decide +kernel
theorem dX8_append_31 : decode cX8_append 31 = .ok (.dup, 1) := by decide +kernel
theorem dX8_append_32 : decode cX8_append 32 = .ok (.getfield 13, 3) := by decide +kernel
theorem dX8_append_35 : decode cX8_append 35 = .ok (.iconst 1, 1) := by decide +kernel
theorem dX8_append_36 : decode cX8_append 36 = .ok (.iadd, 1) := by decide +kernel
theorem dX8_append_37 : decode cX8_append 37 = .ok (.putfield 13, 3) := by decide +kernel
theorem dX8_append_40 : decode cX8_append 40 = .ok (.iinc 2 (-8), 3) := by decide +kernel
theorem dX8_append_43 : decode cX8_append 43 = .ok (.goto (-40), 3) := by decide +kernel
theorem dX8_append_46 : decode cX8_append 46 = .ok (.return_, 1) := by decide +kernel
theorem dX8_isWithin_0 : decode cX8_isWithin 0 = .ok (.iload_n 1, 1) := by decide +kernel
theorem dX8_isWithin_1 : decode cX8_isWithin 1 = .ok (.ifCond .lt 35, 3) := by decide +kernel
theorem dX8_isWithin_4 : decode cX8_isWithin 4 = .ok (.iload_n 1, 1) := by decide +kernel
theorem dX8_isWithin_5 : decode cX8_isWithin 5 = .ok (.aload_n 0, 1) := by decide +kernel
theorem dX8_isWithin_6 : decode cX8_isWithin 6 = .ok (.getfield 13, 3) := by decide +kernel
theorem dX8_isWithin_9 : decode cX8_isWithin 9 = .ok (.if_icmp .ge 27, 3) := by decide +kernel
theorem dX8_isWithin_12 : decode cX8_isWithin 12 = .ok (.aload_n 0, 1) := by decide +kernel
theorem dX8_isWithin_13 : decode cX8_isWithin 13 = .ok (.getfield 9, 3) := by decide +kernel
theorem dX8_isWithin_16 : decode cX8_isWithin 16 = .ok (.iload_n 1, 1) := by decide +kernel
theorem dX8_isWithin_17 : decode cX8_isWithin 17 = .ok (.baload, 1) := by decide +kernel
theorem dX8_isWithin_18 : decode cX8_isWithin 18 = .ok (.iload_n 2, 1) := by decide +kernel
theorem dX8_isWithin_19 : decode cX8_isWithin 19 = .ok (.if_icmp .lt 17, 3) := by decide +kernel
theorem dX8_isWithin_22 : decode cX8_isWithin 22 = .ok (.aload_n 0, 1) := by decide +kernel
theorem dX8_isWithin_23 : decode cX8_isWithin 23 = .ok (.getfield 9, 3) := by decide +kernel
theorem dX8_isWithin_26 : decode cX8_isWithin 26 = .ok (.iload_n 1, 1) := by decide +kernel
theorem dX8_isWithin_27 : decode cX8_isWithin 27 = .ok (.baload, 1) := by decide +kernel
theorem dX8_isWithin_28 : decode cX8_isWithin 28 = .ok (.iload_n 3, 1) := by decide +kernel
theorem dX8_isWithin_29 : decode cX8_isWithin 29 = .ok (.if_icmp .gt 7, 3) := by decide +kernel
theorem dX8_isWithin_32 : decode cX8_isWithin 32 = .ok (.iconst 1, 1) := by decide +kernel
theorem dX8_isWithin_33 : decode cX8_isWithin 33 = .ok (.goto 4, 3) := by decide +kernel
theorem dX8_isWithin_36 : decode cX8_isWithin 36 = .ok (.iconst 0, 1) := by decide +kernel
theorem dX8_isWithin_37 : decode cX8_isWithin 37 = .ok (.ireturn, 1) := by decide +kernel
theorem dX8_endOfRun_0 : decode cX8_endOfRun 0 = .ok (.iload_n 1, 1) := by decide +kernel
theorem dX8_endOfRun_1 : decode cX8_endOfRun 1 = .ok (.istore 4, 2) := by decide +kernel
theorem dX8_endOfRun_3 : decode cX8_endOfRun 3 = .ok (.iload 4, 2) := by decide +kernel
theorem dX8_endOfRun_5 : decode cX8_endOfRun 5 = .ok (.ifCond .lt 40, 3) := by decide +kernel
theorem dX8_endOfRun_8 : decode cX8_endOfRun 8 = .ok (.iload 4, 2) := by decide +kernel
theorem dX8_endOfRun_10 : decode cX8_endOfRun 10 = .ok (.aload_n 0, 1) := by decide +kernel
theorem dX8_endOfRun_11 : decode cX8_endOfRun 11 = .ok (.getfield 13, 3) := by decide +kernel
theorem dX8_endOfRun_14 : decode cX8_endOfRun 14 = .ok (.if_icmp .ge 31, 3) := by decide +kernel
theorem dX8_endOfRun_17 : decode cX8_endOfRun 17 = .ok (.aload_n 0, 1) := by decide +kernel
theorem dX8_endOfRun_18 : decode cX8_endOfRun 18 = .ok (.getfield 9, 3) := by decide +kernel
theorem dX8_endOfRun_21 : decode cX8_endOfRun 21 = .ok (.iload 4, 2) := by decide +kernel
theorem dX8_endOfRun_23 : decode cX8_endOfRun 23 = .ok (.baload, 1) := by decide +kernel
theorem dX8_endOfRun_24 : decode cX8_endOfRun 24 = .ok (.iload_n 2, 1) := by decide +kernel
theorem dX8_endOfRun_25 : decode cX8_endOfRun 25 = .ok (.if_icmp .lt 20, 3) := by decide +kernel
theorem dX8_endOfRun_28 : decode cX8_endOfRun 28 = .ok (.aload_n 0, 1) := by decide +kernel
theorem dX8_endOfRun_29 : decode cX8_endOfRun 29 = .ok (.getfield 9, 3) := by decide +kernel
theorem dX8_endOfRun_32 : decode cX8_endOfRun 32 = .ok (.iload 4, 2) := by decide +kernel
theorem dX8_endOfRun_34 : decode cX8_endOfRun 34 = .ok (.baload, 1) := by decide +kernel
theorem dX8_endOfRun_35 : decode cX8_endOfRun 35 = .ok (.iload_n 3, 1) := by decide +kernel
theorem dX8_endOfRun_36 : decode cX8_endOfRun 36 = .ok (.if_icmp .gt 9, 3) := by decide +kernel
theorem dX8_endOfRun_39 : decode cX8_endOfRun 39 = .ok (.iinc 4 1, 3) := by decide +kernel
theorem dX8_endOfRun_42 : decode cX8_endOfRun 42 = .ok (.goto (-39), 3) := by decide +kernel
theorem dX8_endOfRun_45 : decode cX8_endOfRun 45 = .ok (.iload 4, 2) := by decide +kernel
theorem dX8_endOfRun_47 : decode cX8_endOfRun 47 = .ok (.ireturn, 1) := by decide +kernel
theorem dX8_endOfBlanks_0 : decode cX8_endOfBlanks 0 = .ok (.iload_n 1, 1) := by decide +kernel
theorem dX8_endOfBlanks_1 : decode cX8_endOfBlanks 1 = .ok (.istore_n 2, 1) := by decide +kernel
theorem dX8_endOfBlanks_2 : decode cX8_endOfBlanks 2 = .ok (.iload_n 2, 1) := by decide +kernel
theorem dX8_endOfBlanks_3 : decode cX8_endOfBlanks 3 = .ok (.ifCond .lt 39, 3) := by decide +kernel
theorem dX8_endOfBlanks_6 : decode cX8_endOfBlanks 6 = .ok (.iload_n 2, 1) := by decide +kernel
theorem dX8_endOfBlanks_7 : decode cX8_endOfBlanks 7 = .ok (.aload_n 0, 1) := by decide +kernel
theorem dX8_endOfBlanks_8 : decode cX8_endOfBlanks 8 = .ok (.getfield 13, 3) := by decide +kernel
theorem dX8_endOfBlanks_11 : decode cX8_endOfBlanks 11 = .ok (.if_icmp .ge 31, 3) := by decide +kernel
theorem dX8_endOfBlanks_14 : decode cX8_endOfBlanks 14 = .ok (.aload_n 0, 1) := by decide +kernel
theorem dX8_endOfBlanks_15 : decode cX8_endOfBlanks 15 = .ok (.getfield 9, 3) := by decide +kernel
theorem dX8_endOfBlanks_18 : decode cX8_endOfBlanks 18 = .ok (.iload_n 2, 1) := by decide +kernel
theorem dX8_endOfBlanks_19 : decode cX8_endOfBlanks 19 = .ok (.baload, 1) := by decide +kernel
theorem dX8_endOfBlanks_20 : decode cX8_endOfBlanks 20 = .ok (.bipush 32, 2) := by decide +kernel
theorem dX8_endOfBlanks_22 : decode cX8_endOfBlanks 22 = .ok (.if_icmp .eq 14, 3) := by decide +kernel
theorem dX8_endOfBlanks_25 : decode cX8_endOfBlanks 25 = .ok (.aload_n 0, 1) := by decide +kernel
theorem dX8_endOfBlanks_26 : decode cX8_endOfBlanks 26 = .ok (.getfield 9, 3) := by decide +kernel
theorem dX8_endOfBlanks_29 : decode cX8_endOfBlanks 29 = .ok (.iload_n 2, 1) := by decide +kernel
theorem dX8_endOfBlanks_30 : decode cX8_endOfBlanks 30 = .ok (.baload, 1) := by decide +kernel
theorem dX8_endOfBlanks_31 : decode cX8_endOfBlanks 31 = .ok (.bipush 10, 2) := by decide +kernel
theorem dX8_endOfBlanks_33 : decode cX8_endOfBlanks 33 = .ok (.if_icmp .ne 9, 3) := by decide +kernel
theorem dX8_endOfBlanks_36 : decode cX8_endOfBlanks 36 = .ok (.iinc 2 1, 3) := by decide +kernel
theorem dX8_endOfBlanks_39 : decode cX8_endOfBlanks 39 = .ok (.goto (-37), 3) := by decide +kernel
theorem dX8_endOfBlanks_42 : decode cX8_endOfBlanks 42 = .ok (.iload_n 2, 1) := by decide +kernel
theorem dX8_endOfBlanks_43 : decode cX8_endOfBlanks 43 = .ok (.ireturn, 1) := by decide +kernel
set_option maxRecDepth 20000 in
theorem ggX9_init_X8_init : GoodIn wsX9_init wsX8_init := goodIn_r _ [31, 32, 2, 3, 33, 34, 98, 99] (by decide +kernel) (by decide +kernel)
set_option maxRecDepth 20000 in
theorem gX9_init_X8_init_n9 : GoodIn wsX9_init (wsX8_init) := ggX9_init_X8_init
set_option maxRecDepth 20000 in
theorem ggX9_init_X5_init : GoodIn wsX9_init wsX5_init := goodIn_r _ [37, 38, 2, 3, 39, 40, 41, 42, 43, 44, 45, 46, 47, 48, 49, 50, 51, 52, 53, 54, 55, 56, 57, 58, 59, 60, 61, 62, 136, 137, 111, 112, 113, 114, 115, 116, 117, 118, 119, 120] (by decide +kernel) (by decide +kernel)
set_option maxRecDepth 20000 in
theorem gX9_init_X5_init : GoodIn wsX9_init (wsX5_init) := ggX9_init_X5_init
set_option maxRecDepth 20000 in
theorem ggX9_init_X4_init : GoodIn wsX9_init wsX4_init := goodIn_r _ [64, 65, 2, 3, 66, 67, 40, 41, 68, 69, 49, 50, 51, 52, 53, 54, 55, 56, 57, 58, 59, 60, 61, 62, 121, 122, 123, 136, 137] (by decide +kernel) (by decide +kernel)
set_option maxRecDepth 20000 in
theorem gX9_init_X4_init_n27 : GoodIn wsX9_init (wsX4_init) := ggX9_init_X4_init
set_option maxRecDepth 20000 in
theorem ggX9_init_X3_init : GoodIn wsX9_init wsX3_init := goodIn_r _ [71, 72, 2, 3, 73, 74, 52, 75, 43, 76, 77, 124, 125, 126, 127, 128, 129, 130] (by decide +kernel) (by decide +kernel)
set_option maxRecDepth 20000 in
theorem gX9_init_X3_init_n40 : GoodIn wsX9_init (wsX3_init) := ggX9_init_X3_init
set_option maxRecDepth 20000 in
theorem ggX9_init_X0_init : GoodIn wsX9_init wsX0_init := goodIn_r _ [79, 80, 2, 3, 81, 82, 83, 131] (by decide +kernel) (by decide +kernel)
set_option maxRecDepth 20000 in
theorem gX9_init_X0_init_n47 : GoodIn wsX9_init (wsX0_init) := ggX9_init_X0_init
set_option maxRecDepth 20000 in
theorem ggX9_init_X2_init : GoodIn wsX9_init wsX2_init := goodIn_r _ [85, 86, 2, 3, 52, 87, 88, 89, 90, 91, 92, 93, 94, 95, 43, 96, 97, 132, 133, 134, 135, 138, 139, 140, 141, 142, 143, 144, 145, 146, 147, 148, 149, 150, 151, 152, 153] (by decide +kernel) (by decide +kernel)
set_option maxRecDepth 20000 in
theorem gX9_init_X2_init_n58 : GoodIn wsX9_init (wsX2_init) := ggX9_init_X2_init
theorem dX9_init_0 : decode cX9_init 0 = .ok (.aload_n 0, 1) := by decide +kernel
theorem dX9_init_1 : decode cX9_init 1 = .ok (.invokespecial 1, 3) := by decide +kernel
theorem dX9_init_4 : decode cX9_init 4 = .ok (.aload_n 0, 1) := by decide +kernel
theorem dX9_init_5 : decode cX9_init 5 = .ok (.new 7, 3) := by decide +kernel
theorem dX9_init_8 : decode cX9_init 8 = .ok (.dup, 1) := by decide +kernel
theorem dX9_init_9 : decode cX9_init 9 = .ok (.invokespecial 9, 3) := by decide +kernel
theorem dX9_init_12 : decode cX9_init 12 = .ok (.putfield 10, 3) := by decide +kernel
theorem dX9_init_15 : decode cX9_init 15 = .ok (.aload_n 0, 1) := by decide +kernel
theorem dX9_init_16 : decode cX9_init 16 = .ok (.new 16, 3) := by decide +kernel
theorem dX9_init_19 : decode cX9_init 19 = .ok (.dup, 1) := by decide +kernel
theorem dX9_init_20 : decode cX9_init 20 = .ok (.aload_n 0, 1) := by decide +kernel
theorem dX9_init_21 : decode cX9_init 21 = .ok (.getfield 10, 3) := by decide +kernel
theorem dX9_init_24 : decode cX9_init 24 = .ok (.invokespecial 18, 3) := by decide +kernel
theorem dX9_init_27 : decode cX9_init 27 = .ok (.putfield 21, 3) := by decide +kernel
theorem dX9_init_30 : decode cX9_init 30 = .ok (.aload_n 0, 1) := by decide +kernel
theorem dX9_init_31 : decode cX9_init 31 = .ok (.new 25, 3) := by decide +kernel
theorem dX9_init_34 : decode cX9_init 34 = .ok (.dup, 1) := by decide +kernel
theorem dX9_init_35 : decode cX9_init 35 = .ok (.invokespecial 27, 3) := by decide +kernel
theorem dX9_init_38 : decode cX9_init 38 = .ok (.putfield 28, 3) := by decide +kernel
theorem dX9_init_41 : decode cX9_init 41 = .ok (.aload_n 0, 1) := by decide +kernel
theorem dX9_init_42 : decode cX9_init 42 = .ok (.sipush 150, 3) := by decide +kernel
theorem dX9_init_45 : decode cX9_init 45 = .ok (.anewarray 32, 3) := by decide +kernel
theorem dX9_init_48 : decode cX9_init 48 = .ok (.putfield 34, 3) := by decide +kernel
theorem dX9_init_51 : decode cX9_init 51 = .ok (.aload_n 0, 1) := by decide +kernel
theorem dX9_init_52 : decode cX9_init 52 = .ok (.new 38, 3) := by decide +kernel
theorem dX9_init_55 : decode cX9_init 55 = .ok (.dup, 1) := by decide +kernel
theorem dX9_init_56 : decode cX9_init 56 = .ok (.invokespecial 40, 3) := by decide +kernel
theorem dX9_init_59 : decode cX9_init 59 = .ok (.putfield 41, 3) := by decide +kernel
theorem dX9_init_62 : decode cX9_init 62 = .ok (.aload_n 0, 1) := by decide +kernel
theorem dX9_init_63 : decode cX9_init 63 = .ok (.new 45, 3) := by decide +kernel
theorem dX9_init_66 : decode cX9_init 66 = .ok (.dup, 1) := by decide +kernel
theorem dX9_init_67 : decode cX9_init 67 = .ok (.invokespecial 47, 3) := by decide +kernel
theorem dX9_init_70 : decode cX9_init 70 = .ok (.putfield 48, 3) := by decide +kernel
theorem dX9_init_73 : decode cX9_init 73 = .ok (.aload_n 0, 1) := by decide +kernel
theorem dX9_init_74 : decode cX9_init 74 = .ok (.iconst 5, 1) := by decide +kernel
theorem dX9_init_75 : decode cX9_init 75 = .ok (.anewarray 52, 3) := by decide +kernel
theorem dX9_init_78 : decode cX9_init 78 = .ok (.putfield 54, 3) := by decide +kernel
theorem dX9_init_81 : decode cX9_init 81 = .ok (.iconst 0, 1) := by decide +kernel
theorem dX9_init_82 : decode cX9_init 82 = .ok (.istore_n 1, 1) := by decide +kernel
theorem dX9_init_83 : decode cX9_init 83 = .ok (.iload_n 1, 1) := by decide +kernel
theorem dX9_init_84 : decode cX9_init 84 = .ok (.iconst 5, 1) := by decide +kernel
theorem dX9_init_85 : decode cX9_init 85 = .ok (.if_icmp .ge 22, 3) := by decide +kernel
theorem dX9_init_88 : decode cX9_init 88 = .ok (.aload_n 0, 1) := by decide +kernel
theorem dX9_init_89 : decode cX9_init 89 = .ok (.getfield 54, 3) := by decide +kernel
theorem dX9_init_92 : decode cX9_init 92 = .ok (.iload_n 1, 1) := by decide +kernel
theorem dX9_init_93 : decode cX9_init 93 = .ok (.new 52, 3) := by decide +kernel
theorem dX9_init_96 : decode cX9_init 96 = .ok (.dup, 1) := by decide +kernel
theorem dX9_init_97 : decode cX9_init 97 = .ok (.invokespecial 58, 3) := by decide +kernel
theorem dX9_init_100 : decode cX9_init 100 = .ok (.aastore, 1) := by decide +kernel
theorem dX9_init_101 : decode cX9_init 101 = .ok (.iinc 1 1, 3) := by decide +kernel
theorem dX9_init_104 : decode cX9_init 104 = .ok (.goto (-21), 3) := by decide +kernel
theorem dX9_init_107 : decode cX9_init 107 = .ok (.return_, 1) := by decide +kernel
set_option maxRecDepth 20000 in
theorem ggX9_feed_X8_append : GoodIn wsX9_feed wsX8_append := goodIn_r _ [7, 8, 9, 21, 22] (by decide +kernel) (by decide +kernel)
set_option maxRecDepth 20000 in
theorem gX9_feed_X8_append : GoodIn wsX9_feed (wsV RX9 63 RX8 yX8_append wsX8_append) := goodIn_app (goodIn_of _ (by decide +kernel)) ggX9_feed_X8_append
theorem dX9_feed_0 : decode cX9_feed 0 = .ok (.aload_n 0, 1) := by decide +kernel
theorem dX9_feed_1 : decode cX9_feed 1 = .ok (.getfield 10, 3) := by decide +kernel
theorem dX9_feed_4 : decode cX9_feed 4 = .ok (.getfield 59, 3) := by decide +kernel
theorem dX9_feed_7 : decode cX9_feed 7 = .ok (.bipush 20, 2) := by decide +kernel
theorem dX9_feed_9 : decode cX9_feed 9 = .ok (.iadd, 1) := by decide +kernel
theorem dX9_feed_10 : decode cX9_feed 10 = .ok (.sipush 1000, 3) := by decide +kernel
theorem dX9_feed_13 : decode cX9_feed 13 = .ok (.if_icmp .le 6, 3) := by decide +kernel
theorem dX9_feed_16 : decode cX9_feed 16 = .ok (.bipush (-3), 2) := by decide +kernel
theorem dX9_feed_18 : decode cX9_feed 18 = .ok (.ireturn, 1) := by decide +kernel
theorem dX9_feed_19 : decode cX9_feed 19 = .ok (.aload_n 0, 1) := by decide +kernel
theorem dX9_feed_20 : decode cX9_feed 20 = .ok (.getfield 10, 3) := by decide +kernel
theorem dX9_feed_23 : decode cX9_feed 23 = .ok (.iload_n 1, 1) := by decide +kernel
theorem dX9_feed_24 : decode cX9_feed 24 = .ok (.invokevirtual 63, 3) := by decide +kernel
theorem dX9_feed_27 : decode cX9_feed 27 = .ok (.aload_n 0, 1) := by decide +kernel
theorem dX9_feed_28 : decode cX9_feed 28 = .ok (.getfield 10, 3) := by decide +kernel
theorem dX9_feed_31 : decode cX9_feed 31 = .ok (.iload_n 2, 1) := by decide +kernel
theorem dX9_feed_32 : decode cX9_feed 32 = .ok (.invokevirtual 63, 3) := by decide +kernel
theorem dX9_feed_35 : decode cX9_feed 35 = .ok (.aload_n 0, 1) := by decide +kernel
theorem dX9_feed_36 : decode cX9_feed 36 = .ok (.getfield 10, 3) := by decide +kernel
theorem dX9_feed_39 : decode cX9_feed 39 = .ok (.iload_n 3, 1) := by decide +kernel
theorem dX9_feed_40 : decode cX9_feed 40 = .ok (.invokevirtual 63, 3) := by decide +kernel
theorem dX9_feed_43 : decode cX9_feed 43 = .ok (.aload_n 0, 1) := by decide +kernel
theorem dX9_feed_44 : decode cX9_feed 44 = .ok (.getfield 10, 3) := by decide +kernel
theorem dX9_feed_47 : decode cX9_feed 47 = .ok (.iload 4, 2) := by decide +kernel
theorem dX9_feed_49 : decode cX9_feed 49 = .ok (.invokevirtual 63, 3) := by decide +kernel
theorem dX9_feed_52 : decode cX9_feed 52 = .ok (.aload_n 0, 1) := by decide +kernel
theorem dX9_feed_53 : decode cX9_feed 53 = .ok (.getfield 10, 3) := by decide +kernel
theorem dX9_feed_56 : decode cX9_feed 56 = .ok (.iload 5, 2) := by decide +kernel
theorem dX9_feed_58 : decode cX9_feed 58 = .ok (.invokevirtual 63, 3) := by decide +kernel
theorem dX9_feed_61 : decode cX9_feed 61 = .ok (.aload_n 0, 1) := by decide +kernel
theorem dX9_feed_62 : decode cX9_feed 62 = .ok (.getfield 10, 3) := by decide +kernel
theorem dX9_feed_65 : decode cX9_feed 65 = .ok (.getfield 59, 3) := by decide +kernel
theorem dX9_feed_68 : decode cX9_feed 68 = .ok (.ireturn, 1) := by decide +kernel
theorem dX9_end_0 : decode cX9_end 0 = .ok (.iload_n 1, 1) := by decide +kernel
theorem dX9_end_1 : decode cX9_end 1 = .ok (.ifCond .lt 14, 3) := by decide +kernel
theorem dX9_end_4 : decode cX9_end 4 = .ok (.iload_n 1, 1) := by decide +kernel
theorem dX9_end_5 : decode cX9_end 5 = .ok (.aload_n 0, 1) := by decide +kernel
theorem dX9_end_6 : decode cX9_end 6 = .ok (.getfield 10, 3) := by decide +kernel
theorem dX9_end_9 : decode cX9_end 9 = .ok (.getfield 59, 3) := by decide +kernel
theorem dX9_end_12 : decode cX9_end 12 = .ok (.if_icmp .le 5, 3) := by decide +kernel
theorem dX9_end_15 : decode cX9_end 15 = .ok (.iconst (-1), 1) := by decide +kernel
theorem dX9_end_16 : decode cX9_end 16 = .ok (.ireturn, 1) := by decide +kernel
theorem dX9_end_17 : decode cX9_end 17 = .ok (.aload_n 0, 1) := by decide +kernel
theorem dX9_end_18 : decode cX9_end 18 = .ok (.getfield 10, 3) := by decide +kernel
theorem dX9_end_21 : decode cX9_end 21 = .ok (.iload_n 1, 1) := by decide +kernel
theorem dX9_end_22 : decode cX9_end 22 = .ok (.putfield 59, 3) := by decide +kernel
theorem dX9_end_25 : decode cX9_end 25 = .ok (.iload_n 1, 1) := by decide +kernel
theorem dX9_end_26 : decode cX9_end 26 = .ok (.ireturn, 1) := by decide +kernel
set_option maxRecDepth 20000 in
theorem ggX9_laws_X5_readText : GoodIn wsX9_laws wsX5_readText := goodIn_r _ [11, 12, 13, 14, 15, 10, 16, 17, 18, 19, 20, 21, 22, 23, 24, 25, 26, 27, 28, 29, 30, 31, 32, 33, 34, 35, 36, 37, 38, 39, 40, 41, 42, 43, 44, 45, 46, 47, 48, 49, 50, 51, 52, 53, 54, 55, 56, 57, 58, 59, 60, 61, 62, 63, 64, 65, 66, 67, 68, 69, 70, 71, 72, 73, 74, 75, 76, 77, 78, 79, 80, 81, 82, 83, 84, 85, 86, 87, 88, 89, 90, 91, 92, 93, 94, 95, 96, 97, 98, 99, 100, 101, 102, 103, 104, 105, 106, 107, 108, 109, 110, 111, 112, 113, 114, 115, 116, 117, 118, 119, 120, 121, 122, 123, 124, 125, 126, 127, 128, 129, 130, 131, 132, 133, 134, 135, 136, 137, 138, 139, 140, 141, 142, 143, 144, 145, 146, 147, 148, 149, 150, 151, 152, 153, 154, 155, 156, 157, 199, 200, 201, 202, 203, 204, 205, 206, 207, 208, 209, 210, 197, 198] (by decide +kernel) (by decide +kernel)
set_option maxRecDepth 20000 in
theorem gX9_laws_X5_readText : GoodIn wsX9_laws (wsV RX9 70 RX5 yX5_readText wsX5_readText) := goodIn_app (goodIn_of _ (by decide +kernel)) ggX9_laws_X5_readText
set_option maxRecDepth 20000 in
theorem ggX9_laws_X4_enact : GoodIn wsX9_laws wsX4_enact := goodIn_r _ [162, 163, 164, 165, 26, 166, 167, 168, 169, 170, 171, 172, 173, 174, 28, 175, 176, 24, 25, 27, 29, 30, 31, 32, 177, 178, 179, 180, 181, 182, 183, 184, 185, 131, 132, 133, 211, 212, 213, 209, 210] (by decide +kernel) (by decide +kernel)
set_option maxRecDepth 20000 in
theorem gX9_laws_X4_enact : GoodIn wsX9_laws (wsV RX9 78 RX4 yX4_enact wsX4_enact) := goodIn_app (goodIn_of _ (by decide +kernel)) ggX9_laws_X4_enact
theorem dX9_laws_0 : decode cX9_laws 0 = .ok (.iload_n 1, 1) := by decide +kernel
theorem dX9_laws_1 : decode cX9_laws 1 = .ok (.aload_n 0, 1) := by decide +kernel
theorem dX9_laws_2 : decode cX9_laws 2 = .ok (.getfield 67, 3) := by decide +kernel
theorem dX9_laws_5 : decode cX9_laws 5 = .ok (.if_icmp .lt 10, 3) := by decide +kernel
theorem dX9_laws_8 : decode cX9_laws 8 = .ok (.iload_n 1, 1) := by decide +kernel
theorem dX9_laws_9 : decode cX9_laws 9 = .ok (.sipush 20000, 3) := by decide +kernel
theorem dX9_laws_12 : decode cX9_laws 12 = .ok (.if_icmp .le 14, 3) := by decide +kernel
theorem dX9_laws_15 : decode cX9_laws 15 = .ok (.aload_n 0, 1) := by decide +kernel
theorem dX9_laws_16 : decode cX9_laws 16 = .ok (.getfield 10, 3) := by decide +kernel
theorem dX9_laws_19 : decode cX9_laws 19 = .ok (.iconst 0, 1) := by decide +kernel
theorem dX9_laws_20 : decode cX9_laws 20 = .ok (.putfield 59, 3) := by decide +kernel
theorem dX9_laws_23 : decode cX9_laws 23 = .ok (.bipush (-2), 2) := by decide +kernel
theorem dX9_laws_25 : decode cX9_laws 25 = .ok (.ireturn, 1) := by decide +kernel
theorem dX9_laws_26 : decode cX9_laws 26 = .ok (.aload_n 0, 1) := by decide +kernel
theorem dX9_laws_27 : decode cX9_laws 27 = .ok (.getfield 21, 3) := by decide +kernel
theorem dX9_laws_30 : decode cX9_laws 30 = .ok (.invokevirtual 70, 3) := by decide +kernel
theorem dX9_laws_33 : decode cX9_laws 33 = .ok (.istore_n 2, 1) := by decide +kernel
theorem dX9_laws_34 : decode cX9_laws 34 = .ok (.aload_n 0, 1) := by decide +kernel
theorem dX9_laws_35 : decode cX9_laws 35 = .ok (.getfield 10, 3) := by decide +kernel
theorem dX9_laws_38 : decode cX9_laws 38 = .ok (.iconst 0, 1) := by decide +kernel
theorem dX9_laws_39 : decode cX9_laws 39 = .ok (.putfield 59, 3) := by decide +kernel
theorem dX9_laws_42 : decode cX9_laws 42 = .ok (.iload_n 2, 1) := by decide +kernel
theorem dX9_laws_43 : decode cX9_laws 43 = .ok (.ifCond .ne 5, 3) := by decide +kernel
theorem dX9_laws_46 : decode cX9_laws 46 = .ok (.iconst (-1), 1) := by decide +kernel
theorem dX9_laws_47 : decode cX9_laws 47 = .ok (.ireturn, 1) := by decide +kernel
theorem dX9_laws_48 : decode cX9_laws 48 = .ok (.aload_n 0, 1) := by decide +kernel
theorem dX9_laws_49 : decode cX9_laws 49 = .ok (.getfield 28, 3) := by decide +kernel
theorem dX9_laws_52 : decode cX9_laws 52 = .ok (.aload_n 0, 1) := by decide +kernel
theorem dX9_laws_53 : decode cX9_laws 53 = .ok (.getfield 21, 3) := by decide +kernel
theorem dX9_laws_56 : decode cX9_laws 56 = .ok (.getfield 74, 3) := by decide +kernel
theorem dX9_laws_59 : decode cX9_laws 59 = .ok (.iload_n 1, 1) := by decide +kernel
theorem dX9_laws_60 : decode cX9_laws 60 = .ok (.invokevirtual 78, 3) := by decide +kernel
theorem dX9_laws_63 : decode cX9_laws 63 = .ok (.ireturn, 1) := by decide +kernel
theorem dX9_fault_0 : decode cX9_fault 0 = .ok (.iload_n 1, 1) := by decide +kernel
theorem dX9_fault_1 : decode cX9_fault 1 = .ok (.ifCond .ne 11, 3) := by decide +kernel
theorem dX9_fault_4 : decode cX9_fault 4 = .ok (.aload_n 0, 1) := by decide +kernel
theorem dX9_fault_5 : decode cX9_fault 5 = .ok (.getfield 21, 3) := by decide +kernel
theorem dX9_fault_8 : decode cX9_fault 8 = .ok (.getfield 82, 3) := by decide +kernel
