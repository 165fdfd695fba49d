theorem dX0_init_0 : decode cX0_init 0 = .ok (.aload_n 0, 1) := by decide +kernel
theorem dX0_init_1 : decode cX0_init 1 = .ok (.invokespecial 5, 3) := by decide +kernel
theorem dX0_init_4 : decode cX0_init 4 = .ok (.aload_n 0, 1) := by decide +kernel
theorem dX0_init_5 : decode cX0_init 5 = .ok (.bipush 13, 2) := by decide +kernel
theorem dX0_init_7 : decode cX0_init 7 = .ok (.bipush 61, 2) := by decide +kernel
theorem dX0_init_9 : decode cX0_init 9 = .ok (.multianewarray 11 2, 4) := by decide +kernel
theorem dX0_init_13 : decode cX0_init 13 = .ok (.putfield 13, 3) := by decide +kernel
theorem dX0_init_16 : decode cX0_init 16 = .ok (.return_, 1) := by decide +kernel
theorem dX0_fits_0 : decode cX0_fits 0 = .ok (.iload_n 2, 1) := by decide +kernel
theorem dX0_fits_1 : decode cX0_fits 1 = .ok (.bipush 12, 2) := by decide +kernel
theorem dX0_fits_3 : decode cX0_fits 3 = .ok (.invokestatic 16, 3) := by decide +kernel
theorem dX0_fits_6 : decode cX0_fits 6 = .ok (.iconst 5, 1) := by decide +kernel
theorem dX0_fits_7 : decode cX0_fits 7 = .ok (.imul, 1) := by decide +kernel
theorem dX0_fits_8 : decode cX0_fits 8 = .ok (.istore_n 3, 1) := by decide +kernel
theorem dX0_fits_9 : decode cX0_fits 9 = .ok (.lload_n 0, 1) := by decide +kernel
theorem dX0_fits_10 : decode cX0_fits 10 = .ok (.iload_n 3, 1) := by decide +kernel
theorem dX0_fits_11 : decode cX0_fits 11 = .ok (.lushr, 1) := by decide +kernel
theorem dX0_fits_12 : decode cX0_fits 12 = .ok (.lconst 0, 1) := by decide +kernel
theorem dX0_fits_13 : decode cX0_fits 13 = .ok (.lcmp, 1) := by decide +kernel
theorem dX0_fits_14 : decode cX0_fits 14 = .ok (.ifCond .ne 7, 3) := by decide +kernel
theorem dX0_fits_17 : decode cX0_fits 17 = .ok (.iconst 1, 1) := by decide +kernel
theorem dX0_fits_18 : decode cX0_fits 18 = .ok (.goto 4, 3) := by decide +kernel
theorem dX0_fits_21 : decode cX0_fits 21 = .ok (.iconst 0, 1) := by decide +kernel
theorem dX0_fits_22 : decode cX0_fits 22 = .ok (.ireturn, 1) := by decide +kernel
set_option maxRecDepth 20000 in
theorem ggX0_waysWithAtLeast_X0_tellRows : GoodIn wsX0_waysWithAtLeast wsX0_tellRows := goodIn_r _ [10, 5, 11, 12, 13, 14, 15, 16, 17, 18, 19, 20, 21, 22, 23, 24, 25, 9, 26, 27, 28, 3, 29, 33] (by decide +kernel) (by decide +kernel)
set_option maxRecDepth 20000 in
theorem gX0_waysWithAtLeast_X0_tellRows : GoodIn wsX0_waysWithAtLeast (wsV RX0 22 RX0 yX0_tellRows wsX0_tellRows) := goodIn_app (goodIn_of _ (by decide +kernel)) ggX0_waysWithAtLeast_X0_tellRows
set_option maxRecDepth 20000 in
theorem ggX0_waysWithAtLeast_X9_waysToChoose : GoodIn wsX0_waysWithAtLeast wsX9_waysToChoose := goodIn_r _ [32] (by decide +kernel) (by decide +kernel)
set_option maxRecDepth 20000 in
theorem gX0_waysWithAtLeast_X9_waysToChoose_n26 : GoodIn wsX0_waysWithAtLeast (wsX9_waysToChoose) := ggX0_waysWithAtLeast_X9_waysToChoose
theorem dX0_waysWithAtLeast_0 : decode cX0_waysWithAtLeast 0 = .ok (.aload_n 0, 1) := by decide +kernel
theorem dX0_waysWithAtLeast_1 : decode cX0_waysWithAtLeast 1 = .ok (.lload_n 3, 1) := by decide +kernel
theorem dX0_waysWithAtLeast_2 : decode cX0_waysWithAtLeast 2 = .ok (.invokevirtual 22, 3) := by decide +kernel
theorem dX0_waysWithAtLeast_5 : decode cX0_waysWithAtLeast 5 = .ok (.istore 6, 2) := by decide +kernel
theorem dX0_waysWithAtLeast_7 : decode cX0_waysWithAtLeast 7 = .ok (.lconst 0, 1) := by decide +kernel
theorem dX0_waysWithAtLeast_8 : decode cX0_waysWithAtLeast 8 = .ok (.lstore 7, 2) := by decide +kernel
theorem dX0_waysWithAtLeast_10 : decode cX0_waysWithAtLeast 10 = .ok (.iconst 0, 1) := by decide +kernel
theorem dX0_waysWithAtLeast_11 : decode cX0_waysWithAtLeast 11 = .ok (.istore 9, 2) := by decide +kernel
theorem dX0_waysWithAtLeast_13 : decode cX0_waysWithAtLeast 13 = .ok (.iload 9, 2) := by decide +kernel
theorem dX0_waysWithAtLeast_15 : decode cX0_waysWithAtLeast 15 = .ok (.iload 6, 2) := by decide +kernel
theorem dX0_waysWithAtLeast_17 : decode cX0_waysWithAtLeast 17 = .ok (.if_icmp .gt 68, 3) := by decide +kernel
theorem dX0_waysWithAtLeast_20 : decode cX0_waysWithAtLeast 20 = .ok (.iload_n 1, 1) := by decide +kernel
theorem dX0_waysWithAtLeast_21 : decode cX0_waysWithAtLeast 21 = .ok (.iload 6, 2) := by decide +kernel
theorem dX0_waysWithAtLeast_23 : decode cX0_waysWithAtLeast 23 = .ok (.isub, 1) := by decide +kernel
theorem dX0_waysWithAtLeast_24 : decode cX0_waysWithAtLeast 24 = .ok (.iload_n 2, 1) := by decide +kernel
theorem dX0_waysWithAtLeast_25 : decode cX0_waysWithAtLeast 25 = .ok (.iload 9, 2) := by decide +kernel
theorem dX0_waysWithAtLeast_27 : decode cX0_waysWithAtLeast 27 = .ok (.isub, 1) := by decide +kernel
theorem dX0_waysWithAtLeast_28 : decode cX0_waysWithAtLeast 28 = .ok (.invokestatic 26, 3) := by decide +kernel
theorem dX0_waysWithAtLeast_31 : decode cX0_waysWithAtLeast 31 = .ok (.lstore 10, 2) := by decide +kernel
theorem dX0_waysWithAtLeast_33 : decode cX0_waysWithAtLeast 33 = .ok (.iload 5, 2) := by decide +kernel
theorem dX0_waysWithAtLeast_35 : decode cX0_waysWithAtLeast 35 = .ok (.iconst 0, 1) := by decide +kernel
theorem dX0_waysWithAtLeast_36 : decode cX0_waysWithAtLeast 36 = .ok (.invokestatic 30, 3) := by decide +kernel
theorem dX0_waysWithAtLeast_39 : decode cX0_waysWithAtLeast 39 = .ok (.istore 12, 2) := by decide +kernel
theorem dX0_waysWithAtLeast_41 : decode cX0_waysWithAtLeast 41 = .ok (.iload 12, 2) := by decide +kernel
theorem dX0_waysWithAtLeast_43 : decode cX0_waysWithAtLeast 43 = .ok (.bipush 60, 2) := by decide +kernel
theorem dX0_waysWithAtLeast_45 : decode cX0_waysWithAtLeast 45 = .ok (.if_icmp .gt 34, 3) := by decide +kernel
theorem dX0_waysWithAtLeast_48 : decode cX0_waysWithAtLeast 48 = .ok (.lload 10, 2) := by decide +kernel
theorem dX0_waysWithAtLeast_50 : decode cX0_waysWithAtLeast 50 = .ok (.lconst 0, 1) := by decide +kernel
theorem dX0_waysWithAtLeast_51 : decode cX0_waysWithAtLeast 51 = .ok (.lcmp, 1) := by decide +kernel
theorem dX0_waysWithAtLeast_52 : decode cX0_waysWithAtLeast 52 = .ok (.ifCond .le 27, 3) := by decide +kernel
theorem dX0_waysWithAtLeast_55 : decode cX0_waysWithAtLeast 55 = .ok (.lload 7, 2) := by decide +kernel
theorem dX0_waysWithAtLeast_57 : decode cX0_waysWithAtLeast 57 = .ok (.aload_n 0, 1) := by decide +kernel
theorem dX0_waysWithAtLeast_58 : decode cX0_waysWithAtLeast 58 = .ok (.getfield 13, 3) := by decide +kernel
theorem dX0_waysWithAtLeast_61 : decode cX0_waysWithAtLeast 61 = .ok (.iload 9, 2) := by decide +kernel
theorem dX0_waysWithAtLeast_63 : decode cX0_waysWithAtLeast 63 = .ok (.aaload, 1) := by decide +kernel
theorem dX0_waysWithAtLeast_64 : decode cX0_waysWithAtLeast 64 = .ok (.iload 12, 2) := by decide +kernel
theorem dX0_waysWithAtLeast_66 : decode cX0_waysWithAtLeast 66 = .ok (.laload, 1) := by decide +kernel
theorem dX0_waysWithAtLeast_67 : decode cX0_waysWithAtLeast 67 = .ok (.lload 10, 2) := by decide +kernel
theorem dX0_waysWithAtLeast_69 : decode cX0_waysWithAtLeast 69 = .ok (.lmul, 1) := by decide +kernel
theorem dX0_waysWithAtLeast_70 : decode cX0_waysWithAtLeast 70 = .ok (.ladd, 1) := by decide +kernel
theorem dX0_waysWithAtLeast_71 : decode cX0_waysWithAtLeast 71 = .ok (.lstore 7, 2) := by decide +kernel
theorem dX0_waysWithAtLeast_73 : decode cX0_waysWithAtLeast 73 = .ok (.iinc 12 1, 3) := by decide +kernel
theorem dX0_waysWithAtLeast_76 : decode cX0_waysWithAtLeast 76 = .ok (.goto (-35), 3) := by decide +kernel
theorem dX0_waysWithAtLeast_79 : decode cX0_waysWithAtLeast 79 = .ok (.iinc 9 1, 3) := by decide +kernel
theorem dX0_waysWithAtLeast_82 : decode cX0_waysWithAtLeast 82 = .ok (.goto (-69), 3) := by decide +kernel
theorem dX0_waysWithAtLeast_85 : decode cX0_waysWithAtLeast 85 = .ok (.lload 7, 2) := by decide +kernel
theorem dX0_waysWithAtLeast_87 : decode cX0_waysWithAtLeast 87 = .ok (.lreturn, 1) := by decide +kernel
set_option maxRecDepth 20000 in
theorem ggX0_tellRows_J7_fill_d0a16 : GoodIn wsX0_tellRows wsJ7_fill_d0a16 := goodIn_r _ [6] (by decide +kernel) (by decide +kernel)
set_option maxRecDepth 20000 in
theorem gX0_tellRows_J7_fill_d0a16 : GoodIn wsX0_tellRows (va_wsS RX0 33 yJ7_fill_d0a16 wsJ7_fill_d0a16) := goodIn_app (goodIn_of _ (by decide +kernel)) ggX0_tellRows_J7_fill_d0a16
set_option maxRecDepth 20000 in
theorem ggX0_tellRows_J13_bitCount_95d88 : GoodIn wsX0_tellRows wsJ13_bitCount_95d88 := goodIn_r _ [10, 11, 12, 13] (by decide +kernel) (by decide +kernel)
set_option maxRecDepth 20000 in
theorem gX0_tellRows_J13_bitCount_95d88 : GoodIn wsX0_tellRows (va_wsS RX0 41 yJ13_bitCount_95d88 wsJ13_bitCount_95d88) := goodIn_app (goodIn_of _ (by decide +kernel)) ggX0_tellRows_J13_bitCount_95d88
set_option maxRecDepth 20000 in
theorem ggX0_tellRows_X0_addRow : GoodIn wsX0_tellRows wsX0_addRow := goodIn_r _ [18, 19, 20, 21, 22, 1, 23] (by decide +kernel) (by decide +kernel)
set_option maxRecDepth 20000 in
theorem gX0_tellRows_X0_addRow : GoodIn wsX0_tellRows (wsV RX0 46 RX0 yX0_addRow wsX0_addRow) := goodIn_app (goodIn_of _ (by decide +kernel)) ggX0_tellRows_X0_addRow
theorem dX0_tellRows_0 : decode cX0_tellRows 0 = .ok (.iconst 0, 1) := by decide +kernel
theorem dX0_tellRows_1 : decode cX0_tellRows 1 = .ok (.istore_n 3, 1) := by decide +kernel
theorem dX0_tellRows_2 : decode cX0_tellRows 2 = .ok (.iload_n 3, 1) := by decide +kernel
theorem dX0_tellRows_3 : decode cX0_tellRows 3 = .ok (.bipush 12, 2) := by decide +kernel
theorem dX0_tellRows_5 : decode cX0_tellRows 5 = .ok (.if_icmp .gt 19, 3) := by decide +kernel
theorem dX0_tellRows_8 : decode cX0_tellRows 8 = .ok (.aload_n 0, 1) := by decide +kernel
theorem dX0_tellRows_9 : decode cX0_tellRows 9 = .ok (.getfield 13, 3) := by decide +kernel
theorem dX0_tellRows_12 : decode cX0_tellRows 12 = .ok (.iload_n 3, 1) := by decide +kernel
theorem dX0_tellRows_13 : decode cX0_tellRows 13 = .ok (.aaload, 1) := by decide +kernel
theorem dX0_tellRows_14 : decode cX0_tellRows 14 = .ok (.lconst 0, 1) := by decide +kernel
theorem dX0_tellRows_15 : decode cX0_tellRows 15 = .ok (.invokestatic 33, 3) := by decide +kernel
theorem dX0_tellRows_18 : decode cX0_tellRows 18 = .ok (.iinc 3 1, 3) := by decide +kernel
theorem dX0_tellRows_21 : decode cX0_tellRows 21 = .ok (.goto (-19), 3) := by decide +kernel
theorem dX0_tellRows_24 : decode cX0_tellRows 24 = .ok (.aload_n 0, 1) := by decide +kernel
theorem dX0_tellRows_25 : decode cX0_tellRows 25 = .ok (.getfield 13, 3) := by decide +kernel
theorem dX0_tellRows_28 : decode cX0_tellRows 28 = .ok (.iconst 0, 1) := by decide +kernel
theorem dX0_tellRows_29 : decode cX0_tellRows 29 = .ok (.aaload, 1) := by decide +kernel
theorem dX0_tellRows_30 : decode cX0_tellRows 30 = .ok (.iconst 0, 1) := by decide +kernel
theorem dX0_tellRows_31 : decode cX0_tellRows 31 = .ok (.lconst 1, 1) := by decide +kernel
theorem dX0_tellRows_32 : decode cX0_tellRows 32 = .ok (.lastore, 1) := by decide +kernel
theorem dX0_tellRows_33 : decode cX0_tellRows 33 = .ok (.iconst 0, 1) := by decide +kernel
theorem dX0_tellRows_34 : decode cX0_tellRows 34 = .ok (.istore_n 3, 1) := by decide +kernel
theorem dX0_tellRows_35 : decode cX0_tellRows 35 = .ok (.iconst 0, 1) := by decide +kernel
theorem dX0_tellRows_36 : decode cX0_tellRows 36 = .ok (.istore 4, 2) := by decide +kernel
theorem dX0_tellRows_38 : decode cX0_tellRows 38 = .ok (.iload 4, 2) := by decide +kernel
theorem dX0_tellRows_40 : decode cX0_tellRows 40 = .ok (.bipush 12, 2) := by decide +kernel
theorem dX0_tellRows_42 : decode cX0_tellRows 42 = .ok (.if_icmp .ge 39, 3) := by decide +kernel
theorem dX0_tellRows_45 : decode cX0_tellRows 45 = .ok (.lload_n 1, 1) := by decide +kernel
theorem dX0_tellRows_46 : decode cX0_tellRows 46 = .ok (.iload 4, 2) := by decide +kernel
theorem dX0_tellRows_48 : decode cX0_tellRows 48 = .ok (.iconst 5, 1) := by decide +kernel
theorem dX0_tellRows_49 : decode cX0_tellRows 49 = .ok (.imul, 1) := by decide +kernel
theorem dX0_tellRows_50 : decode cX0_tellRows 50 = .ok (.lushr, 1) := by decide +kernel
theorem dX0_tellRows_51 : decode cX0_tellRows 51 = .ok (.ldc2_w 39, 3) := by decide +kernel
theorem dX0_tellRows_54 : decode cX0_tellRows 54 = .ok (.land, 1) := by decide +kernel
theorem dX0_tellRows_55 : decode cX0_tellRows 55 = .ok (.invokestatic 41, 3) := by decide +kernel
theorem dX0_tellRows_58 : decode cX0_tellRows 58 = .ok (.istore 5, 2) := by decide +kernel
theorem dX0_tellRows_60 : decode cX0_tellRows 60 = .ok (.iload 5, 2) := by decide +kernel
theorem dX0_tellRows_62 : decode cX0_tellRows 62 = .ok (.ifCond .le 13, 3) := by decide +kernel
theorem dX0_tellRows_65 : decode cX0_tellRows 65 = .ok (.aload_n 0, 1) := by decide +kernel
theorem dX0_tellRows_66 : decode cX0_tellRows 66 = .ok (.iload_n 3, 1) := by decide +kernel
theorem dX0_tellRows_67 : decode cX0_tellRows 67 = .ok (.iload 5, 2) := by decide +kernel
theorem dX0_tellRows_69 : decode cX0_tellRows 69 = .ok (.invokevirtual 46, 3) := by decide +kernel
theorem dX0_tellRows_72 : decode cX0_tellRows 72 = .ok (.iinc 3 1, 3) := by decide +kernel
theorem dX0_tellRows_75 : decode cX0_tellRows 75 = .ok (.iinc 4 1, 3) := by decide +kernel
theorem dX0_tellRows_78 : decode cX0_tellRows 78 = .ok (.goto (-40), 3) := by decide +kernel
theorem dX0_tellRows_81 : decode cX0_tellRows 81 = .ok (.iload_n 3, 1) := by decide +kernel
theorem dX0_tellRows_82 : decode cX0_tellRows 82 = .ok (.ireturn, 1) := by decide +kernel
theorem dX0_addRow_0 : decode cX0_addRow 0 = .ok (.iload_n 1, 1) := by decide +kernel
theorem dX0_addRow_1 : decode cX0_addRow 1 = .ok (.bipush 11, 2) := by decide +kernel
theorem dX0_addRow_3 : decode cX0_addRow 3 = .ok (.invokestatic 16, 3) := by decide +kernel
theorem dX0_addRow_6 : decode cX0_addRow 6 = .ok (.istore_n 3, 1) := by decide +kernel
theorem dX0_addRow_7 : decode cX0_addRow 7 = .ok (.iload_n 3, 1) := by decide +kernel
theorem dX0_addRow_8 : decode cX0_addRow 8 = .ok (.ifCond .lt 52, 3) := by decide +kernel
theorem dX0_addRow_11 : decode cX0_addRow 11 = .ok (.iconst 0, 1) := by decide +kernel
theorem dX0_addRow_12 : decode cX0_addRow 12 = .ok (.istore 4, 2) := by decide +kernel
theorem dX0_addRow_14 : decode cX0_addRow 14 = .ok (.iload 4, 2) := by decide +kernel
theorem dX0_addRow_16 : decode cX0_addRow 16 = .ok (.iload_n 2, 1) := by decide +kernel
theorem dX0_addRow_17 : decode cX0_addRow 17 = .ok (.iadd, 1) := by decide +kernel
theorem dX0_addRow_18 : decode cX0_addRow 18 = .ok (.bipush 60, 2) := by decide +kernel
theorem dX0_addRow_20 : decode cX0_addRow 20 = .ok (.if_icmp .gt 34, 3) := by decide +kernel
theorem dX0_addRow_23 : decode cX0_addRow 23 = .ok (.aload_n 0, 1) := by decide +kernel
theorem dX0_addRow_24 : decode cX0_addRow 24 = .ok (.getfield 13, 3) := by decide +kernel
theorem dX0_addRow_27 : decode cX0_addRow 27 = .ok (.iload_n 3, 1) := by decide +kernel
theorem dX0_addRow_28 : decode cX0_addRow 28 = .ok (.iconst 1, 1) := by decide +kernel
theorem dX0_addRow_29 : decode cX0_addRow 29 = .ok (.iadd, 1) := by decide +kernel
theorem dX0_addRow_30 : decode cX0_addRow 30 = .ok (.aaload, 1) := by decide +kernel
theorem dX0_addRow_31 : decode cX0_addRow 31 = .ok (.iload 4, 2) := by decide +kernel
theorem dX0_addRow_33 : decode cX0_addRow 33 = .ok (.iload_n 2, 1) := by decide +kernel
theorem dX0_addRow_34 : decode cX0_addRow 34 = .ok (.iadd, 1) := by decide +kernel
theorem dX0_addRow_35 : decode cX0_addRow 35 = .ok (.dup2, 1) := by decide +kernel
theorem dX0_addRow_36 : decode cX0_addRow 36 = .ok (.laload, 1) := by decide +kernel
theorem dX0_addRow_37 : decode cX0_addRow 37 = .ok (.aload_n 0, 1) := by decide +kernel
theorem dX0_addRow_38 : decode cX0_addRow 38 = .ok (.getfield 13, 3) := by decide +kernel
theorem dX0_addRow_41 : decode cX0_addRow 41 = .ok (.iload_n 3, 1) := by decide +kernel
theorem dX0_addRow_42 : decode cX0_addRow 42 = .ok (.aaload, 1) := by decide +kernel
theorem dX0_addRow_43 : decode cX0_addRow 43 = .ok (.iload 4, 2) := by decide +kernel
theorem dX0_addRow_45 : decode cX0_addRow 45 = .ok (.laload, 1) := by decide +kernel
theorem dX0_addRow_46 : decode cX0_addRow 46 = .ok (.ladd, 1) := by decide +kernel
theorem dX0_addRow_47 : decode cX0_addRow 47 = .ok (.lastore, 1) := by decide +kernel
theorem dX0_addRow_48 : decode cX0_addRow 48 = .ok (.iinc 4 1, 3) := by decide +kernel
theorem dX0_addRow_51 : decode cX0_addRow 51 = .ok (.goto (-37), 3) := by decide +kernel
theorem dX0_addRow_54 : decode cX0_addRow 54 = .ok (.iinc 3 (-1), 3) := by decide +kernel
theorem dX0_addRow_57 : decode cX0_addRow 57 = .ok (.goto (-50), 3) := by decide +kernel
theorem dX0_addRow_60 : decode cX0_addRow 60 = .ok (.return_, 1) := by decide +kernel
theorem dX1_init_0 : decode cX1_init 0 = .ok (.aload_n 0, 1) := by decide +kernel
theorem dX1_init_1 : decode cX1_init 1 = .ok (.invokespecial 3, 3) := by decide +kernel
theorem dX1_init_4 : decode cX1_init 4 = .ok (.aload_n 0, 1) := by decide +kernel
theorem dX1_init_5 : decode cX1_init 5 = .ok (.iload_n 1, 1) := by decide +kernel
theorem dX1_init_6 : decode cX1_init 6 = .ok (.putfield 9, 3) := by decide +kernel
theorem dX1_init_9 : decode cX1_init 9 = .ok (.aload_n 0, 1) := by decide +kernel
theorem dX1_init_10 : decode cX1_init 10 = .ok (.iload_n 2, 1) := by decide +kernel
theorem dX1_init_11 : decode cX1_init 11 = .ok (.putfield 15, 3) := by decide +kernel
theorem dX1_init_14 : decode cX1_init 14 = .ok (.aload_n 0, 1) := by decide +kernel
theorem dX1_init_15 : decode cX1_init 15 = .ok (.iload_n 3, 1) := by decide +kernel
theorem dX1_init_16 : decode cX1_init 16 = .ok (.putfield 18, 3) := by decide +kernel
theorem dX1_init_19 : decode cX1_init 19 = .ok (.aload_n 0, 1) := by decide +kernel
theorem dX1_init_20 : decode cX1_init 20 = .ok (.iload 4, 2) := by decide +kernel
theorem dX1_init_22 : decode cX1_init 22 = .ok (.putfield 21, 3) := by decide +kernel
theorem dX1_init_25 : decode cX1_init 25 = .ok (.aload_n 0, 1) := by decide +kernel
theorem dX1_init_26 : decode cX1_init 26 = .ok (.iconst (-1), 1) := by decide +kernel
theorem dX1_init_27 : decode cX1_init 27 = .ok (.putfield 24, 3) := by decide +kernel
theorem dX1_init_30 : decode cX1_init 30 = .ok (.aload_n 0, 1) := by decide +kernel
theorem dX1_init_31 : decode cX1_init 31 = .ok (.iconst (-1), 1) := by decide +kernel
theorem dX1_init_32 : decode cX1_init 32 = .ok (.putfield 27, 3) := by decide +kernel
theorem dX1_init_35 : decode cX1_init 35 = .ok (.return_, 1) := by decide +kernel
theorem dX1_holds_0 : decode cX1_holds 0 = .ok (.aload_n 0, 1) := by decide +kernel
theorem dX1_holds_1 : decode cX1_holds 1 = .ok (.getfield 15, 3) := by decide +kernel
theorem dX1_holds_4 : decode cX1_holds 4 = .ok (.iload_n 1, 1) := by decide +kernel
theorem dX1_holds_5 : decode cX1_holds 5 = .ok (.if_icmp .ne 23, 3) := by decide +kernel
theorem dX1_holds_8 : decode cX1_holds 8 = .ok (.aload_n 0, 1) := by decide +kernel
theorem dX1_holds_9 : decode cX1_holds 9 = .ok (.getfield 18, 3) := by decide +kernel
theorem dX1_holds_12 : decode cX1_holds 12 = .ok (.iload_n 2, 1) := by decide +kernel
theorem dX1_holds_13 : decode cX1_holds 13 = .ok (.if_icmp .ne 15, 3) := by decide +kernel
theorem dX1_holds_16 : decode cX1_holds 16 = .ok (.aload_n 0, 1) := by decide +kernel
theorem dX1_holds_17 : decode cX1_holds 17 = .ok (.getfield 24, 3) := by decide +kernel
theorem dX1_holds_20 : decode cX1_holds 20 = .ok (.iload_n 3, 1) := by decide +kernel
theorem dX1_holds_21 : decode cX1_holds 21 = .ok (.if_icmp .ne 7, 3) := by decide +kernel
theorem dX1_holds_24 : decode cX1_holds 24 = .ok (.iconst 1, 1) := by decide +kernel
theorem dX1_holds_25 : decode cX1_holds 25 = .ok (.goto 4, 3) := by decide +kernel
theorem dX1_holds_28 : decode cX1_holds 28 = .ok (.iconst 0, 1) := by decide +kernel
theorem dX1_holds_29 : decode cX1_holds 29 = .ok (.ireturn, 1) := by decide +kernel
theorem dX1_leave_0 : decode cX1_leave 0 = .ok (.aload_n 0, 1) := by decide +kernel
theorem dX1_leave_1 : decode cX1_leave 1 = .ok (.iconst (-1), 1) := by decide +kernel
theorem dX1_leave_2 : decode cX1_leave 2 = .ok (.putfield 24, 3) := by decide +kernel
theorem dX1_leave_5 : decode cX1_leave 5 = .ok (.aload_n 0, 1) := by decide +kernel
theorem dX1_leave_6 : decode cX1_leave 6 = .ok (.iconst 0, 1) := by decide +kernel
theorem dX1_leave_7 : decode cX1_leave 7 = .ok (.putfield 30, 3) := by decide +kernel
theorem dX1_leave_10 : decode cX1_leave 10 = .ok (.aload_n 0, 1) := by decide +kernel
theorem dX1_leave_11 : decode cX1_leave 11 = .ok (.iconst (-1), 1) := by decide +kernel
theorem dX1_leave_12 : decode cX1_leave 12 = .ok (.putfield 27, 3) := by decide +kernel
theorem dX1_leave_15 : decode cX1_leave 15 = .ok (.return_, 1) := by decide +kernel
set_option maxRecDepth 20000 in
theorem ggX2_init_X7_init : GoodIn wsX2_init wsX7_init := goodIn_r _ [11, 12, 2, 3, 4, 13, 14, 15, 16, 21, 22, 23, 24, 25, 26, 27, 28, 29, 30, 31, 32, 33, 34, 35, 36] (by decide +kernel) (by decide +kernel)
set_option maxRecDepth 20000 in
theorem gX2_init_X7_init_n17 : GoodIn wsX2_init (wsX7_init) := ggX2_init_X7_init
theorem dX2_init_0 : decode cX2_init 0 = .ok (.aload_n 0, 1) := by decide +kernel
theorem dX2_init_1 : decode cX2_init 1 = .ok (.invokespecial 3, 3) := by decide +kernel
theorem dX2_init_4 : decode cX2_init 4 = .ok (.aload_n 0, 1) := by decide +kernel
theorem dX2_init_5 : decode cX2_init 5 = .ok (.bipush 25, 2) := by decide +kernel
theorem dX2_init_7 : decode cX2_init 7 = .ok (.newarray .int, 2) := by decide +kernel
theorem dX2_init_9 : decode cX2_init 9 = .ok (.putfield 9, 3) := by decide +kernel
theorem dX2_init_12 : decode cX2_init 12 = .ok (.aload_n 0, 1) := by decide +kernel
theorem dX2_init_13 : decode cX2_init 13 = .ok (.new 15, 3) := by decide +kernel
theorem dX2_init_16 : decode cX2_init 16 = .ok (.dup, 1) := by decide +kernel
theorem dX2_init_17 : decode cX2_init 17 = .ok (.invokespecial 17, 3) := by decide +kernel
theorem dX2_init_20 : decode cX2_init 20 = .ok (.putfield 18, 3) := by decide +kernel
theorem dX2_init_23 : decode cX2_init 23 = .ok (.return_, 1) := by decide +kernel
set_option maxRecDepth 20000 in
theorem ggX2_shut_X7_vanish : GoodIn wsX2_shut wsX7_vanish := goodIn_r _ [8, 9, 10, 15, 16, 17, 18, 19, 20, 21, 22, 23, 24, 25, 26, 27, 28, 29, 30] (by decide +kernel) (by decide +kernel)
set_option maxRecDepth 20000 in
theorem gX2_shut_X7_vanish : GoodIn wsX2_shut (wsV RX2 29 RX7 yX7_vanish wsX7_vanish) := goodIn_app (goodIn_of _ (by decide +kernel)) ggX2_shut_X7_vanish
theorem dX2_shut_0 : decode cX2_shut 0 = .ok (.aload_n 0, 1) := by decide +kernel
theorem dX2_shut_1 : decode cX2_shut 1 = .ok (.iconst 0, 1) := by decide +kernel
theorem dX2_shut_2 : decode cX2_shut 2 = .ok (.putfield 22, 3) := by decide +kernel
theorem dX2_shut_5 : decode cX2_shut 5 = .ok (.aload_n 0, 1) := by decide +kernel
theorem dX2_shut_6 : decode cX2_shut 6 = .ok (.iconst 0, 1) := by decide +kernel
theorem dX2_shut_7 : decode cX2_shut 7 = .ok (.putfield 26, 3) := by decide +kernel
theorem dX2_shut_10 : decode cX2_shut 10 = .ok (.aload_n 0, 1) := by decide +kernel
theorem dX2_shut_11 : decode cX2_shut 11 = .ok (.getfield 18, 3) := by decide +kernel
theorem dX2_shut_14 : decode cX2_shut 14 = .ok (.invokevirtual 29, 3) := by decide +kernel
theorem dX2_shut_17 : decode cX2_shut 17 = .ok (.return_, 1) := by decide +kernel
theorem dX2_isFull_0 : decode cX2_isFull 0 = .ok (.aload_n 0, 1) := by decide +kernel
theorem dX2_isFull_1 : decode cX2_isFull 1 = .ok (.getfield 26, 3) := by decide +kernel
theorem dX2_isFull_4 : decode cX2_isFull 4 = .ok (.aload_n 0, 1) := by decide +kernel
theorem dX2_isFull_5 : decode cX2_isFull 5 = .ok (.getfield 22, 3) := by decide +kernel
theorem dX2_isFull_8 : decode cX2_isFull 8 = .ok (.if_icmp .lt 7, 3) := by decide +kernel
theorem dX2_isFull_11 : decode cX2_isFull 11 = .ok (.iconst 1, 1) := by decide +kernel
theorem dX2_isFull_12 : decode cX2_isFull 12 = .ok (.goto 4, 3) := by decide +kernel
theorem dX2_isFull_15 : decode cX2_isFull 15 = .ok (.iconst 0, 1) := by decide +kernel
theorem dX2_isFull_16 : decode cX2_isFull 16 = .ok (.ireturn, 1) := by decide +kernel
theorem dX2_take_0 : decode cX2_take 0 = .ok (.aload_n 0, 1) := by decide +kernel
theorem dX2_take_1 : decode cX2_take 1 = .ok (.getfield 26, 3) := by decide +kernel
theorem dX2_take_4 : decode cX2_take 4 = .ok (.bipush 25, 2) := by decide +kernel
theorem dX2_take_6 : decode cX2_take 6 = .ok (.if_icmp .ge 23, 3) := by decide +kernel
theorem dX2_take_9 : decode cX2_take 9 = .ok (.aload_n 0, 1) := by decide +kernel
theorem dX2_take_10 : decode cX2_take 10 = .ok (.getfield 9, 3) := by decide +kernel
theorem dX2_take_13 : decode cX2_take 13 = .ok (.aload_n 0, 1) := by decide +kernel
theorem dX2_take_14 : decode cX2_take 14 = .ok (.getfield 26, 3) := by decide +kernel
theorem dX2_take_17 : decode cX2_take 17 = .ok (.iload_n 1, 1) := by decide +kernel
theorem dX2_take_18 : decode cX2_take 18 = .ok (.iastore, 1) := by decide +kernel
theorem dX2_take_19 : decode cX2_take 19 = .ok (.aload_n 0, 1) := by decide +kernel
theorem dX2_take_20 : decode cX2_take 20 = .ok (.dup, 1) := by decide +kernel
theorem dX2_take_21 : decode cX2_take 21 = .ok (.getfield 26, 3) := by decide +kernel
theorem dX2_take_24 : decode cX2_take 24 = .ok (.iconst 1, 1) := by decide +kernel
theorem dX2_take_25 : decode cX2_take 25 = .ok (.iadd, 1) := by decide +kernel
theorem dX2_take_26 : decode cX2_take 26 = .ok (.putfield 26, 3) := by decide +kernel
theorem dX2_take_29 : decode cX2_take 29 = .ok (.return_, 1) := by decide +kernel
theorem dX2_sitterAt_0 : decode cX2_sitterAt 0 = .ok (.iload_n 1, 1) := by decide +kernel
theorem dX2_sitterAt_1 : decode cX2_sitterAt 1 = .ok (.ifCond .lt 20, 3) := by decide +kernel
theorem dX2_sitterAt_4 : decode cX2_sitterAt 4 = .ok (.iload_n 1, 1) := by decide +kernel
theorem dX2_sitterAt_5 : decode cX2_sitterAt 5 = .ok (.aload_n 0, 1) := by decide +kernel
theorem dX2_sitterAt_6 : decode cX2_sitterAt 6 = .ok (.getfield 26, 3) := by decide +kernel
theorem dX2_sitterAt_9 : decode cX2_sitterAt 9 = .ok (.if_icmp .ge 12, 3) := by decide +kernel
theorem dX2_sitterAt_12 : decode cX2_sitterAt 12 = .ok (.aload_n 0, 1) := by decide +kernel
theorem dX2_sitterAt_13 : decode cX2_sitterAt 13 = .ok (.getfield 9, 3) := by decide +kernel
theorem dX2_sitterAt_16 : decode cX2_sitterAt 16 = .ok (.iload_n 1, 1) := by decide +kernel
theorem dX2_sitterAt_17 : decode cX2_sitterAt 17 = .ok (.iaload, 1) := by decide +kernel
theorem dX2_sitterAt_18 : decode cX2_sitterAt 18 = .ok (.goto 4, 3) := by decide +kernel
theorem dX2_sitterAt_21 : decode cX2_sitterAt 21 = .ok (.iconst (-1), 1) := by decide +kernel
theorem dX2_sitterAt_22 : decode cX2_sitterAt 22 = .ok (.ireturn, 1) := by decide +kernel
theorem dX2_seatOf_0 : decode cX2_seatOf 0 = .ok (.iconst 0, 1) := by decide +kernel
theorem dX2_seatOf_1 : decode cX2_seatOf 1 = .ok (.istore_n 2, 1) := by decide +kernel
theorem dX2_seatOf_2 : decode cX2_seatOf 2 = .ok (.iload_n 2, 1) := by decide +kernel
theorem dX2_seatOf_3 : decode cX2_seatOf 3 = .ok (.aload_n 0, 1) := by decide +kernel
theorem dX2_seatOf_4 : decode cX2_seatOf 4 = .ok (.getfield 26, 3) := by decide +kernel
theorem dX2_seatOf_7 : decode cX2_seatOf 7 = .ok (.if_icmp .ge 21, 3) := by decide +kernel
theorem dX2_seatOf_10 : decode cX2_seatOf 10 = .ok (.aload_n 0, 1) := by decide +kernel
theorem dX2_seatOf_11 : decode cX2_seatOf 11 = .ok (.getfield 9, 3) := by decide +kernel
theorem dX2_seatOf_14 : decode cX2_seatOf 14 = .ok (.iload_n 2, 1) := by decide +kernel
theorem dX2_seatOf_15 : decode cX2_seatOf 15 = .ok (.iaload, 1) := by decide +kernel
theorem dX2_seatOf_16 : decode cX2_seatOf 16 = .ok (.iload_n 1, 1) := by decide +kernel
theorem dX2_seatOf_17 : decode cX2_seatOf 17 = .ok (.if_icmp .ne 5, 3) := by decide +kernel
theorem dX2_seatOf_20 : decode cX2_seatOf 20 = .ok (.iload_n 2, 1) := by decide +kernel
theorem dX2_seatOf_21 : decode cX2_seatOf 21 = .ok (.ireturn, 1) := by decide +kernel
theorem dX2_seatOf_22 : decode cX2_seatOf 22 = .ok (.iinc 2 1, 3) := by decide +kernel
theorem dX2_seatOf_25 : decode cX2_seatOf 25 = .ok (.goto (-23), 3) := by decide +kernel
theorem dX2_seatOf_28 : decode cX2_seatOf 28 = .ok (.iconst (-1), 1) := by decide +kernel
theorem dX2_seatOf_29 : decode cX2_seatOf 29 = .ok (.ireturn, 1) := by decide +kernel
theorem dX3_init_0 : decode cX3_init 0 = .ok (.aload_n 0, 1) := by decide +kernel
theorem dX3_init_1 : decode cX3_init 1 = .ok (.invokespecial 3, 3) := by decide +kernel
theorem dX3_init_4 : decode cX3_init 4 = .ok (.aload_n 0, 1) := by decide +kernel
theorem dX3_init_5 : decode cX3_init 5 = .ok (.sipush 150, 3) := by decide +kernel
theorem dX3_init_8 : decode cX3_init 8 = .ok (.anewarray 9, 3) := by decide +kernel
theorem dX3_init_11 : decode cX3_init 11 = .ok (.putfield 11, 3) := by decide +kernel
theorem dX3_init_14 : decode cX3_init 14 = .ok (.aload_n 0, 1) := by decide +kernel
theorem dX3_init_15 : decode cX3_init 15 = .ok (.bipush 50, 2) := by decide +kernel
theorem dX3_init_17 : decode cX3_init 17 = .ok (.newarray .int, 2) := by decide +kernel
theorem dX3_init_19 : decode cX3_init 19 = .ok (.putfield 17, 3) := by decide +kernel
theorem dX3_init_22 : decode cX3_init 22 = .ok (.aload_n 0, 1) := by decide +kernel
theorem dX3_init_23 : decode cX3_init 23 = .ok (.bipush 10, 2) := by decide +kernel
theorem dX3_init_25 : decode cX3_init 25 = .ok (.newarray .boolean, 2) := by decide +kernel
theorem dX3_init_27 : decode cX3_init 27 = .ok (.putfield 21, 3) := by decide +kernel
theorem dX3_init_30 : decode cX3_init 30 = .ok (.aload_n 0, 1) := by decide +kernel
theorem dX3_init_31 : decode cX3_init 31 = .ok (.sipush 150, 3) := by decide +kernel
theorem dX3_init_34 : decode cX3_init 34 = .ok (.anewarray 9, 3) := by decide +kernel
theorem dX3_init_37 : decode cX3_init 37 = .ok (.putfield 25, 3) := by decide +kernel
theorem dX3_init_40 : decode cX3_init 40 = .ok (.return_, 1) := by decide +kernel
set_option maxRecDepth 20000 in
theorem ggX3_clear_X1_leave : GoodIn wsX3_clear wsX1_leave := goodIn_r _ [11, 12, 13, 14, 26, 27, 28, 29, 30, 31, 32, 33, 34, 35] (by decide +kernel) (by decide +kernel)
set_option maxRecDepth 20000 in
theorem gX3_clear_X1_leave : GoodIn wsX3_clear (wsV RX3 32 RX1 yX1_leave wsX1_leave) := goodIn_app (goodIn_of _ (by decide +kernel)) ggX3_clear_X1_leave
set_option maxRecDepth 20000 in
theorem ggX3_clear_J7_fill_53178 : GoodIn wsX3_clear wsJ7_fill_53178 := goodIn_r _ [18] (by decide +kernel) (by decide +kernel)
set_option maxRecDepth 20000 in
theorem gX3_clear_J7_fill_53178 : GoodIn wsX3_clear (va_wsS RX3 35 yJ7_fill_53178 wsJ7_fill_53178) := goodIn_app (goodIn_of _ (by decide +kernel)) ggX3_clear_J7_fill_53178
theorem dX3_clear_0 : decode cX3_clear 0 = .ok (.iconst 0, 1) := by decide +kernel
theorem dX3_clear_1 : decode cX3_clear 1 = .ok (.istore_n 1, 1) := by decide +kernel
theorem dX3_clear_2 : decode cX3_clear 2 = .ok (.iload_n 1, 1) := by decide +kernel
theorem dX3_clear_3 : decode cX3_clear 3 = .ok (.aload_n 0, 1) := by decide +kernel
theorem dX3_clear_4 : decode cX3_clear 4 = .ok (.getfield 28, 3) := by decide +kernel
theorem dX3_clear_7 : decode cX3_clear 7 = .ok (.if_icmp .ge 24, 3) := by decide +kernel
theorem dX3_clear_10 : decode cX3_clear 10 = .ok (.aload_n 0, 1) := by decide +kernel
theorem dX3_clear_11 : decode cX3_clear 11 = .ok (.getfield 11, 3) := by decide +kernel
theorem dX3_clear_14 : decode cX3_clear 14 = .ok (.iload_n 1, 1) := by decide +kernel
theorem dX3_clear_15 : decode cX3_clear 15 = .ok (.aaload, 1) := by decide +kernel
theorem dX3_clear_16 : decode cX3_clear 16 = .ok (.astore_n 2, 1) := by decide +kernel
theorem dX3_clear_17 : decode cX3_clear 17 = .ok (.aload_n 2, 1) := by decide +kernel
theorem dX3_clear_18 : decode cX3_clear 18 = .ok (.ifnull 7, 3) := by decide +kernel
theorem dX3_clear_21 : decode cX3_clear 21 = .ok (.aload_n 2, 1) := by decide +kernel
theorem dX3_clear_22 : decode cX3_clear 22 = .ok (.invokevirtual 32, 3) := by decide +kernel
theorem dX3_clear_25 : decode cX3_clear 25 = .ok (.iinc 1 1, 3) := by decide +kernel
theorem dX3_clear_28 : decode cX3_clear 28 = .ok (.goto (-26), 3) := by decide +kernel
theorem dX3_clear_31 : decode cX3_clear 31 = .ok (.aload_n 0, 1) := by decide +kernel
theorem dX3_clear_32 : decode cX3_clear 32 = .ok (.getfield 17, 3) := by decide +kernel
theorem dX3_clear_35 : decode cX3_clear 35 = .ok (.iconst 0, 1) := by decide +kernel
theorem dX3_clear_36 : decode cX3_clear 36 = .ok (.invokestatic 35, 3) := by decide +kernel
theorem dX3_clear_39 : decode cX3_clear 39 = .ok (.iconst 0, 1) := by decide +kernel
theorem dX3_clear_40 : decode cX3_clear 40 = .ok (.istore_n 1, 1) := by decide +kernel
theorem dX3_clear_41 : decode cX3_clear 41 = .ok (.iload_n 1, 1) := by decide +kernel
theorem dX3_clear_42 : decode cX3_clear 42 = .ok (.bipush 10, 2) := by decide +kernel
theorem dX3_clear_44 : decode cX3_clear 44 = .ok (.if_icmp .ge 16, 3) := by decide +kernel
theorem dX3_clear_47 : decode cX3_clear 47 = .ok (.aload_n 0, 1) := by decide +kernel
theorem dX3_clear_48 : decode cX3_clear 48 = .ok (.getfield 21, 3) := by decide +kernel
theorem dX3_clear_51 : decode cX3_clear 51 = .ok (.iload_n 1, 1) := by decide +kernel
theorem dX3_clear_52 : decode cX3_clear 52 = .ok (.iconst 0, 1) := by decide +kernel
theorem dX3_clear_53 : decode cX3_clear 53 = .ok (.bastore, 1) := by decide +kernel
theorem dX3_clear_54 : decode cX3_clear 54 = .ok (.iinc 1 1, 3) := by decide +kernel
theorem dX3_clear_57 : decode cX3_clear 57 = .ok (.goto (-16), 3) := by decide +kernel
theorem dX3_clear_60 : decode cX3_clear 60 = .ok (.aload_n 0, 1) := by decide +kernel
theorem dX3_clear_61 : decode cX3_clear 61 = .ok (.iconst 0, 1) := by decide +kernel
theorem dX3_clear_62 : decode cX3_clear 62 = .ok (.putfield 28, 3) := by decide +kernel
theorem dX3_clear_65 : decode cX3_clear 65 = .ok (.aload_n 0, 1) := by decide +kernel
theorem dX3_clear_66 : decode cX3_clear 66 = .ok (.iconst 0, 1) := by decide +kernel
theorem dX3_clear_67 : decode cX3_clear 67 = .ok (.putfield 41, 3) := by decide +kernel
theorem dX3_clear_70 : decode cX3_clear 70 = .ok (.aload_n 0, 1) := by decide +kernel
theorem dX3_clear_71 : decode cX3_clear 71 = .ok (.iconst 0, 1) := by decide +kernel
theorem dX3_clear_72 : decode cX3_clear 72 = .ok (.putfield 44, 3) := by decide +kernel
theorem dX3_clear_75 : decode cX3_clear 75 = .ok (.return_, 1) := by decide +kernel
theorem dX3_admit_0 : decode cX3_admit 0 = .ok (.aload_n 1, 1) := by decide +kernel
theorem dX3_admit_1 : decode cX3_admit 1 = .ok (.getfield 47, 3) := by decide +kernel
theorem dX3_admit_4 : decode cX3_admit 4 = .ok (.iconst 5, 1) := by decide +kernel
theorem dX3_admit_5 : decode cX3_admit 5 = .ok (.imul, 1) := by decide +kernel
theorem dX3_admit_6 : decode cX3_admit 6 = .ok (.aload_n 1, 1) := by decide +kernel
theorem dX3_admit_7 : decode cX3_admit 7 = .ok (.getfield 50, 3) := by decide +kernel
theorem dX3_admit_10 : decode cX3_admit 10 = .ok (.iadd, 1) := by decide +kernel
theorem dX3_admit_11 : decode cX3_admit 11 = .ok (.istore_n 2, 1) := by decide +kernel
theorem dX3_admit_12 : decode cX3_admit 12 = .ok (.aload_n 0, 1) := by decide +kernel
theorem dX3_admit_13 : decode cX3_admit 13 = .ok (.getfield 28, 3) := by decide +kernel
theorem dX3_admit_16 : decode cX3_admit 16 = .ok (.sipush 150, 3) := by decide +kernel
theorem dX3_admit_19 : decode cX3_admit 19 = .ok (.if_icmp .ge 16, 3) := by decide +kernel
theorem dX3_admit_22 : decode cX3_admit 22 = .ok (.iload_n 2, 1) := by decide +kernel
theorem dX3_admit_23 : decode cX3_admit 23 = .ok (.ifCond .lt 12, 3) := by decide +kernel
theorem dX3_admit_26 : decode cX3_admit 26 = .ok (.iload_n 2, 1) := by decide +kernel
theorem dX3_admit_27 : decode cX3_admit 27 = .ok (.aload_n 0, 1) := by decide +kernel
theorem dX3_admit_28 : decode cX3_admit 28 = .ok (.getfield 17, 3) := by decide +kernel
theorem dX3_admit_31 : decode cX3_admit 31 = .ok (.arraylength, 1) := by decide +kernel
theorem dX3_admit_32 : decode cX3_admit 32 = .ok (.if_icmp .lt 6, 3) := by decide +kernel
theorem dX3_admit_35 : decode cX3_admit 35 = .ok (.bipush (-4), 2) := by decide +kernel
theorem dX3_admit_37 : decode cX3_admit 37 = .ok (.ireturn, 1) := by decide +kernel
theorem dX3_admit_38 : decode cX3_admit 38 = .ok (.aload_n 0, 1) := by decide +kernel
theorem dX3_admit_39 : decode cX3_admit 39 = .ok (.getfield 11, 3) := by decide +kernel
theorem dX3_admit_42 : decode cX3_admit 42 = .ok (.aload_n 0, 1) := by decide +kernel
theorem dX3_admit_43 : decode cX3_admit 43 = .ok (.getfield 28, 3) := by decide +kernel
theorem dX3_admit_46 : decode cX3_admit 46 = .ok (.aload_n 1, 1) := by decide +kernel
theorem dX3_admit_47 : decode cX3_admit 47 = .ok (.aastore, 1) := by decide +kernel
theorem dX3_admit_48 : decode cX3_admit 48 = .ok (.aload_n 0, 1) := by decide +kernel
theorem dX3_admit_49 : decode cX3_admit 49 = .ok (.dup, 1) := by decide +kernel
theorem dX3_admit_50 : decode cX3_admit 50 = .ok (.getfield 28, 3) := by decide +kernel
theorem dX3_admit_53 : decode cX3_admit 53 = .ok (.iconst 1, 1) := by decide +kernel
theorem dX3_admit_54 : decode cX3_admit 54 = .ok (.iadd, 1) := by decide +kernel
theorem dX3_admit_55 : decode cX3_admit 55 = .ok (.putfield 28, 3) := by decide +kernel
theorem dX3_admit_58 : decode cX3_admit 58 = .ok (.aload_n 1, 1) := by decide +kernel
theorem dX3_admit_59 : decode cX3_admit 59 = .ok (.aload_n 0, 1) := by decide +kernel
theorem dX3_admit_60 : decode cX3_admit 60 = .ok (.getfield 17, 3) := by decide +kernel
theorem dX3_admit_63 : decode cX3_admit 63 = .ok (.iload_n 2, 1) := by decide +kernel
theorem dX3_admit_64 : decode cX3_admit 64 = .ok (.iaload, 1) := by decide +kernel
theorem dX3_admit_65 : decode cX3_admit 65 = .ok (.putfield 53, 3) := by decide +kernel
theorem dX3_admit_68 : decode cX3_admit 68 = .ok (.aload_n 0, 1) := by decide +kernel
theorem dX3_admit_69 : decode cX3_admit 69 = .ok (.getfield 17, 3) := by decide +kernel
theorem dX3_admit_72 : decode cX3_admit 72 = .ok (.iload_n 2, 1) := by decide +kernel
theorem dX3_admit_73 : decode cX3_admit 73 = .ok (.dup2, 1) := by decide +kernel
theorem dX3_admit_74 : decode cX3_admit 74 = .ok (.iaload, 1) := by decide +kernel
theorem dX3_admit_75 : decode cX3_admit 75 = .ok (.iconst 1, 1) := by decide +kernel
theorem dX3_admit_76 : decode cX3_admit 76 = .ok (.iadd, 1) := by decide +kernel
theorem dX3_admit_77 : decode cX3_admit 77 = .ok (.iastore, 1) := by decide +kernel
theorem dX3_admit_78 : decode cX3_admit 78 = .ok (.aload_n 0, 1) := by decide +kernel
theorem dX3_admit_79 : decode cX3_admit 79 = .ok (.getfield 17, 3) := by decide +kernel
theorem dX3_admit_82 : decode cX3_admit 82 = .ok (.iload_n 2, 1) := by decide +kernel
theorem dX3_admit_83 : decode cX3_admit 83 = .ok (.iaload, 1) := by decide +kernel
theorem dX3_admit_84 : decode cX3_admit 84 = .ok (.ireturn, 1) := by decide +kernel
set_option maxRecDepth 20000 in
theorem ggX3_hasDrawn_X9_isTribe : GoodIn wsX3_hasDrawn wsX9_isTribe := goodIn_r _ [4] (by decide +kernel) (by decide +kernel)
set_option maxRecDepth 20000 in
theorem gX3_hasDrawn_X9_isTribe_n56 : GoodIn wsX3_hasDrawn (wsX9_isTribe) := ggX3_hasDrawn_X9_isTribe
theorem dX3_hasDrawn_0 : decode cX3_hasDrawn 0 = .ok (.iload_n 1, 1) := by decide +kernel
theorem dX3_hasDrawn_1 : decode cX3_hasDrawn 1 = .ok (.invokestatic 56, 3) := by decide +kernel
theorem dX3_hasDrawn_4 : decode cX3_hasDrawn 4 = .ok (.ifCond .eq 16, 3) := by decide +kernel
theorem dX3_hasDrawn_7 : decode cX3_hasDrawn 7 = .ok (.aload_n 0, 1) := by decide +kernel
theorem dX3_hasDrawn_8 : decode cX3_hasDrawn 8 = .ok (.getfield 21, 3) := by decide +kernel
theorem dX3_hasDrawn_11 : decode cX3_hasDrawn 11 = .ok (.iload_n 1, 1) := by decide +kernel
theorem dX3_hasDrawn_12 : decode cX3_hasDrawn 12 = .ok (.baload, 1) := by decide +kernel
theorem dX3_hasDrawn_13 : decode cX3_hasDrawn 13 = .ok (.ifCond .eq 7, 3) := by decide +kernel
theorem dX3_hasDrawn_16 : decode cX3_hasDrawn 16 = .ok (.iconst 1, 1) := by decide +kernel
theorem dX3_hasDrawn_17 : decode cX3_hasDrawn 17 = .ok (.goto 4, 3) := by decide +kernel
theorem dX3_hasDrawn_20 : decode cX3_hasDrawn 20 = .ok (.iconst 0, 1) := by decide +kernel
theorem dX3_hasDrawn_21 : decode cX3_hasDrawn 21 = .ok (.ireturn, 1) := by decide +kernel
set_option maxRecDepth 20000 in
theorem ggX3_rowsOf_X9_isTribe : GoodIn wsX3_rowsOf wsX9_isTribe := goodIn_r _ [8] (by decide +kernel) (by decide +kernel)
set_option maxRecDepth 20000 in
theorem gX3_rowsOf_X9_isTribe_n56 : GoodIn wsX3_rowsOf (wsX9_isTribe) := ggX3_rowsOf_X9_isTribe
theorem dX3_rowsOf_0 : decode cX3_rowsOf 0 = .ok (.iload_n 1, 1) := by decide +kernel
theorem dX3_rowsOf_1 : decode cX3_rowsOf 1 = .ok (.invokestatic 56, 3) := by decide +kernel
theorem dX3_rowsOf_4 : decode cX3_rowsOf 4 = .ok (.ifCond .ne 5, 3) := by decide +kernel
theorem dX3_rowsOf_7 : decode cX3_rowsOf 7 = .ok (.iconst 0, 1) := by decide +kernel
theorem dX3_rowsOf_8 : decode cX3_rowsOf 8 = .ok (.ireturn, 1) := by decide +kernel
theorem dX3_rowsOf_9 : decode cX3_rowsOf 9 = .ok (.sipush 150, 3) := by decide +kernel
theorem dX3_rowsOf_12 : decode cX3_rowsOf 12 = .ok (.istore_n 2, 1) := by decide +kernel
theorem dX3_rowsOf_13 : decode cX3_rowsOf 13 = .ok (.iconst 0, 1) := by decide +kernel
theorem dX3_rowsOf_14 : decode cX3_rowsOf 14 = .ok (.istore_n 3, 1) := by decide +kernel
theorem dX3_rowsOf_15 : decode cX3_rowsOf 15 = .ok (.iload_n 3, 1) := by decide +kernel
theorem dX3_rowsOf_16 : decode cX3_rowsOf 16 = .ok (.iconst 5, 1) := by decide +kernel
theorem dX3_rowsOf_17 : decode cX3_rowsOf 17 = .ok (.if_icmp .ge 24, 3) := by decide +kernel
theorem dX3_rowsOf_20 : decode cX3_rowsOf 20 = .ok (.iload_n 2, 1) := by decide +kernel
theorem dX3_rowsOf_21 : decode cX3_rowsOf 21 = .ok (.aload_n 0, 1) := by decide +kernel
theorem dX3_rowsOf_22 : decode cX3_rowsOf 22 = .ok (.getfield 17, 3) := by decide +kernel
theorem dX3_rowsOf_25 : decode cX3_rowsOf 25 = .ok (.iload_n 1, 1) := by decide +kernel
theorem dX3_rowsOf_26 : decode cX3_rowsOf 26 = .ok (.iconst 5, 1) := by decide +kernel
theorem dX3_rowsOf_27 : decode cX3_rowsOf 27 = .ok (.imul, 1) := by decide +kernel
theorem dX3_rowsOf_28 : decode cX3_rowsOf 28 = .ok (.iload_n 3, 1) := by decide +kernel
theorem dX3_rowsOf_29 : decode cX3_rowsOf 29 = .ok (.iadd, 1) := by decide +kernel
theorem dX3_rowsOf_30 : decode cX3_rowsOf 30 = .ok (.iaload, 1) := by decide +kernel
theorem dX3_rowsOf_31 : decode cX3_rowsOf 31 = .ok (.invokestatic 60, 3) := by decide +kernel
theorem dX3_rowsOf_34 : decode cX3_rowsOf 34 = .ok (.istore_n 2, 1) := by decide +kernel
theorem dX3_rowsOf_35 : decode cX3_rowsOf 35 = .ok (.iinc 3 1, 3) := by decide +kernel
theorem dX3_rowsOf_38 : decode cX3_rowsOf 38 = .ok (.goto (-23), 3) := by decide +kernel
theorem dX3_rowsOf_41 : decode cX3_rowsOf 41 = .ok (.iload_n 2, 1) := by decide +kernel
theorem dX3_rowsOf_42 : decode cX3_rowsOf 42 = .ok (.ireturn, 1) := by decide +kernel
set_option maxRecDepth 20000 in
theorem ggX3_chooseRows_X9_isTribe : GoodIn wsX3_chooseRows wsX9_isTribe := goodIn_r _ [5] (by decide +kernel) (by decide +kernel)
set_option maxRecDepth 20000 in
theorem gX3_chooseRows_X9_isTribe_n56 : GoodIn wsX3_chooseRows (wsX9_isTribe) := ggX3_chooseRows_X9_isTribe
set_option maxRecDepth 20000 in
theorem ggX3_chooseRows_X3_rowsOf : GoodIn wsX3_chooseRows wsX3_rowsOf := goodIn_r _ [10, 11, 12, 13, 14, 15, 3, 4, 5, 38, 39, 40, 41, 42, 43, 44] (by decide +kernel) (by decide +kernel)
set_option maxRecDepth 20000 in
theorem gX3_chooseRows_X3_rowsOf : GoodIn wsX3_chooseRows (wsV RX3 66 RX3 yX3_rowsOf wsX3_rowsOf) := goodIn_app (goodIn_of _ (by decide +kernel)) ggX3_chooseRows_X3_rowsOf
set_option maxRecDepth 20000 in
theorem ggX3_chooseRows_X9_waysToChoose : GoodIn wsX3_chooseRows wsX9_waysToChoose := goodIn_r _ [17] (by decide +kernel) (by decide +kernel)
set_option maxRecDepth 20000 in
theorem gX3_chooseRows_X9_waysToChoose_n70 : GoodIn wsX3_chooseRows (wsX9_waysToChoose) := ggX3_chooseRows_X9_waysToChoose
set_option maxRecDepth 20000 in
theorem ggX3_chooseRows_X3_chooseRow : GoodIn wsX3_chooseRows wsX3_chooseRow := goodIn_r _ [21, 1, 22, 23, 24, 25, 26, 9, 27, 28, 29, 30, 31, 32, 33, 34, 35, 36, 37, 38, 39, 40, 41, 42, 43, 44, 45, 46, 47, 48, 49, 50, 51, 52, 53, 54] (by decide +kernel) (by decide +kernel)
set_option maxRecDepth 20000 in
theorem gX3_chooseRows_X3_chooseRow : GoodIn wsX3_chooseRows (wsV RX3 74 RX3 yX3_chooseRow wsX3_chooseRow) := goodIn_app (goodIn_of _ (by decide +kernel)) ggX3_chooseRows_X3_chooseRow
theorem dX3_chooseRows_0 : decode cX3_chooseRows 0 = .ok (.iload_n 1, 1) := by decide +kernel
theorem dX3_chooseRows_1 : decode cX3_chooseRows 1 = .ok (.invokestatic 56, 3) := by decide +kernel
theorem dX3_chooseRows_4 : decode cX3_chooseRows 4 = .ok (.ifCond .ne 6, 3) := by decide +kernel
theorem dX3_chooseRows_7 : decode cX3_chooseRows 7 = .ok (.bipush (-2), 2) := by decide +kernel
theorem dX3_chooseRows_9 : decode cX3_chooseRows 9 = .ok (.ireturn, 1) := by decide +kernel
theorem dX3_chooseRows_10 : decode cX3_chooseRows 10 = .ok (.aload_n 0, 1) := by decide +kernel
theorem dX3_chooseRows_11 : decode cX3_chooseRows 11 = .ok (.iload_n 1, 1) := by decide +kernel
theorem dX3_chooseRows_12 : decode cX3_chooseRows 12 = .ok (.invokevirtual 66, 3) := by decide +kernel
theorem dX3_chooseRows_15 : decode cX3_chooseRows 15 = .ok (.istore 5, 2) := by decide +kernel
theorem dX3_chooseRows_17 : decode cX3_chooseRows 17 = .ok (.iload_n 2, 1) := by decide +kernel
theorem dX3_chooseRows_18 : decode cX3_chooseRows 18 = .ok (.istore 6, 2) := by decide +kernel
theorem dX3_chooseRows_20 : decode cX3_chooseRows 20 = .ok (.lload_n 3, 1) := by decide +kernel
theorem dX3_chooseRows_21 : decode cX3_chooseRows 21 = .ok (.lstore 7, 2) := by decide +kernel
theorem dX3_chooseRows_23 : decode cX3_chooseRows 23 = .ok (.aload_n 0, 1) := by decide +kernel
theorem dX3_chooseRows_24 : decode cX3_chooseRows 24 = .ok (.getfield 41, 3) := by decide +kernel
theorem dX3_chooseRows_27 : decode cX3_chooseRows 27 = .ok (.istore 9, 2) := by decide +kernel
theorem dX3_chooseRows_29 : decode cX3_chooseRows 29 = .ok (.iconst 0, 1) := by decide +kernel
theorem dX3_chooseRows_30 : decode cX3_chooseRows 30 = .ok (.istore 10, 2) := by decide +kernel
theorem dX3_chooseRows_32 : decode cX3_chooseRows 32 = .ok (.iload 10, 2) := by decide +kernel
theorem dX3_chooseRows_34 : decode cX3_chooseRows 34 = .ok (.iload 5, 2) := by decide +kernel
theorem dX3_chooseRows_36 : decode cX3_chooseRows 36 = .ok (.if_icmp .ge 58, 3) := by decide +kernel
theorem dX3_chooseRows_39 : decode cX3_chooseRows 39 = .ok (.iload 6, 2) := by decide +kernel
theorem dX3_chooseRows_41 : decode cX3_chooseRows 41 = .ok (.ifCond .le 53, 3) := by decide +kernel
theorem dX3_chooseRows_44 : decode cX3_chooseRows 44 = .ok (.iload 5, 2) := by decide +kernel
theorem dX3_chooseRows_46 : decode cX3_chooseRows 46 = .ok (.iload 10, 2) := by decide +kernel
theorem dX3_chooseRows_48 : decode cX3_chooseRows 48 = .ok (.isub, 1) := by decide +kernel
theorem dX3_chooseRows_49 : decode cX3_chooseRows 49 = .ok (.iconst 1, 1) := by decide +kernel
theorem dX3_chooseRows_50 : decode cX3_chooseRows 50 = .ok (.isub, 1) := by decide +kernel
theorem dX3_chooseRows_51 : decode cX3_chooseRows 51 = .ok (.iload 6, 2) := by decide +kernel
theorem dX3_chooseRows_53 : decode cX3_chooseRows 53 = .ok (.iconst 1, 1) := by decide +kernel
theorem dX3_chooseRows_54 : decode cX3_chooseRows 54 = .ok (.isub, 1) := by decide +kernel
theorem dX3_chooseRows_55 : decode cX3_chooseRows 55 = .ok (.invokestatic 70, 3) := by decide +kernel
theorem dX3_chooseRows_58 : decode cX3_chooseRows 58 = .ok (.lstore 11, 2) := by decide +kernel
theorem dX3_chooseRows_60 : decode cX3_chooseRows 60 = .ok (.lload 7, 2) := by decide +kernel
theorem dX3_chooseRows_62 : decode cX3_chooseRows 62 = .ok (.lload 11, 2) := by decide +kernel
theorem dX3_chooseRows_64 : decode cX3_chooseRows 64 = .ok (.lcmp, 1) := by decide +kernel
theorem dX3_chooseRows_65 : decode cX3_chooseRows 65 = .ok (.ifCond .ge 16, 3) := by decide +kernel
theorem dX3_chooseRows_68 : decode cX3_chooseRows 68 = .ok (.aload_n 0, 1) := by decide +kernel
theorem dX3_chooseRows_69 : decode cX3_chooseRows 69 = .ok (.iload_n 1, 1) := by decide +kernel
theorem dX3_chooseRows_70 : decode cX3_chooseRows 70 = .ok (.iload 10, 2) := by decide +kernel
theorem dX3_chooseRows_72 : decode cX3_chooseRows 72 = .ok (.invokevirtual 74, 3) := by decide +kernel
theorem dX3_chooseRows_75 : decode cX3_chooseRows 75 = .ok (.iinc 6 (-1), 3) := by decide +kernel
theorem dX3_chooseRows_78 : decode cX3_chooseRows 78 = .ok (.goto 10, 3) := by decide +kernel
theorem dX3_chooseRows_81 : decode cX3_chooseRows 81 = .ok (.lload 7, 2) := by decide +kernel
theorem dX3_chooseRows_83 : decode cX3_chooseRows 83 = .ok (.lload 11, 2) := by decide +kernel
theorem dX3_chooseRows_85 : decode cX3_chooseRows 85 = .ok (.lsub, 1) := by decide +kernel
theorem dX3_chooseRows_86 : decode cX3_chooseRows 86 = .ok (.lstore 7, 2) := by decide +kernel
theorem dX3_chooseRows_88 : decode cX3_chooseRows 88 = .ok (.iinc 10 1, 3) := by decide +kernel
theorem dX3_chooseRows_91 : decode cX3_chooseRows 91 = .ok (.goto (-59), 3) := by decide +kernel
theorem dX3_chooseRows_94 : decode cX3_chooseRows 94 = .ok (.aload_n 0, 1) := by decide +kernel
theorem dX3_chooseRows_95 : decode cX3_chooseRows 95 = .ok (.getfield 21, 3) := by decide +kernel
theorem dX3_chooseRows_98 : decode cX3_chooseRows 98 = .ok (.iload_n 1, 1) := by decide +kernel
theorem dX3_chooseRows_99 : decode cX3_chooseRows 99 = .ok (.iconst 1, 1) := by decide +kernel
theorem dX3_chooseRows_100 : decode cX3_chooseRows 100 = .ok (.bastore, 1) := by decide +kernel
theorem dX3_chooseRows_101 : decode cX3_chooseRows 101 = .ok (.aload_n 0, 1) := by decide +kernel
theorem dX3_chooseRows_102 : decode cX3_chooseRows 102 = .ok (.getfield 41, 3) := by decide +kernel
theorem dX3_chooseRows_105 : decode cX3_chooseRows 105 = .ok (.iload 9, 2) := by decide +kernel
theorem dX3_chooseRows_107 : decode cX3_chooseRows 107 = .ok (.isub, 1) := by decide +kernel
theorem dX3_chooseRows_108 : decode cX3_chooseRows 108 = .ok (.ireturn, 1) := by decide +kernel
set_option maxRecDepth 20000 in
theorem ggX3_chooseRow_X3_ticketAt : GoodIn wsX3_chooseRow wsX3_ticketAt := goodIn_r _ [8, 9, 10, 11, 12, 13, 14, 15, 16, 17, 18, 19, 20, 21, 22, 23, 24, 25, 26, 27, 28, 29, 30, 31, 32, 33, 34, 35] (by decide +kernel) (by decide +kernel)
set_option maxRecDepth 20000 in
theorem gX3_chooseRow_X3_ticketAt : GoodIn wsX3_chooseRow (wsV RX3 78 RX3 yX3_ticketAt wsX3_ticketAt) := goodIn_app (goodIn_of _ (by decide +kernel)) ggX3_chooseRow_X3_ticketAt
theorem dX3_chooseRow_0 : decode cX3_chooseRow 0 = .ok (.iconst 0, 1) := by decide +kernel
theorem dX3_chooseRow_1 : decode cX3_chooseRow 1 = .ok (.istore_n 3, 1) := by decide +kernel
theorem dX3_chooseRow_2 : decode cX3_chooseRow 2 = .ok (.iload_n 3, 1) := by decide +kernel
theorem dX3_chooseRow_3 : decode cX3_chooseRow 3 = .ok (.iconst 5, 1) := by decide +kernel
theorem dX3_chooseRow_4 : decode cX3_chooseRow 4 = .ok (.if_icmp .ge 60, 3) := by decide +kernel
theorem dX3_chooseRow_7 : decode cX3_chooseRow 7 = .ok (.aload_n 0, 1) := by decide +kernel
theorem dX3_chooseRow_8 : decode cX3_chooseRow 8 = .ok (.iload_n 1, 1) := by decide +kernel
theorem dX3_chooseRow_9 : decode cX3_chooseRow 9 = .ok (.iload_n 3, 1) := by decide +kernel
theorem dX3_chooseRow_10 : decode cX3_chooseRow 10 = .ok (.iload_n 2, 1) := by decide +kernel
theorem dX3_chooseRow_11 : decode cX3_chooseRow 11 = .ok (.invokevirtual 78, 3) := by decide +kernel
theorem dX3_chooseRow_14 : decode cX3_chooseRow 14 = .ok (.astore 4, 2) := by decide +kernel
theorem dX3_chooseRow_16 : decode cX3_chooseRow 16 = .ok (.aload 4, 2) := by decide +kernel
theorem dX3_chooseRow_18 : decode cX3_chooseRow 18 = .ok (.ifnull 40, 3) := by decide +kernel
theorem dX3_chooseRow_21 : decode cX3_chooseRow 21 = .ok (.aload_n 0, 1) := by decide +kernel
theorem dX3_chooseRow_22 : decode cX3_chooseRow 22 = .ok (.getfield 41, 3) := by decide +kernel
theorem dX3_chooseRow_25 : decode cX3_chooseRow 25 = .ok (.sipush 150, 3) := by decide +kernel
theorem dX3_chooseRow_28 : decode cX3_chooseRow 28 = .ok (.if_icmp .ge 30, 3) := by decide +kernel
theorem dX3_chooseRow_31 : decode cX3_chooseRow 31 = .ok (.aload 4, 2) := by decide +kernel
theorem dX3_chooseRow_33 : decode cX3_chooseRow 33 = .ok (.iconst 1, 1) := by decide +kernel
theorem dX3_chooseRow_34 : decode cX3_chooseRow 34 = .ok (.putfield 82, 3) := by decide +kernel
theorem dX3_chooseRow_37 : decode cX3_chooseRow 37 = .ok (.aload_n 0, 1) := by decide +kernel
theorem dX3_chooseRow_38 : decode cX3_chooseRow 38 = .ok (.getfield 25, 3) := by decide +kernel
theorem dX3_chooseRow_41 : decode cX3_chooseRow 41 = .ok (.aload_n 0, 1) := by decide +kernel
theorem dX3_chooseRow_42 : decode cX3_chooseRow 42 = .ok (.getfield 41, 3) := by decide +kernel
theorem dX3_chooseRow_45 : decode cX3_chooseRow 45 = .ok (.aload 4, 2) := by decide +kernel
theorem dX3_chooseRow_47 : decode cX3_chooseRow 47 = .ok (.aastore, 1) := by decide +kernel
theorem dX3_chooseRow_48 : decode cX3_chooseRow 48 = .ok (.aload_n 0, 1) := by decide +kernel
theorem dX3_chooseRow_49 : decode cX3_chooseRow 49 = .ok (.dup, 1) := by decide +kernel
theorem dX3_chooseRow_50 : decode cX3_chooseRow 50 = .ok (.getfield 41, 3) := by decide +kernel
theorem dX3_chooseRow_53 : decode cX3_chooseRow 53 = .ok (.iconst 1, 1) := by decide +kernel
theorem dX3_chooseRow_54 : decode cX3_chooseRow 54 = .ok (.iadd, 1) := by decide +kernel
theorem dX3_chooseRow_55 : decode cX3_chooseRow 55 = .ok (.putfield 41, 3) := by decide +kernel
theorem dX3_chooseRow_58 : decode cX3_chooseRow 58 = .ok (.iinc 3 1, 3) := by decide +kernel
theorem dX3_chooseRow_61 : decode cX3_chooseRow 61 = .ok (.goto (-59), 3) := by decide +kernel
theorem dX3_chooseRow_64 : decode cX3_chooseRow 64 = .ok (.return_, 1) := by decide +kernel
set_option maxRecDepth 20000 in
theorem ggX3_ticketAt_X1_holds : GoodIn wsX3_ticketAt wsX1_holds := goodIn_r _ [7, 8, 9, 10, 18, 19, 20, 21, 22, 23, 24, 25, 26, 27] (by decide +kernel) (by decide +kernel)
set_option maxRecDepth 20000 in
theorem gX3_ticketAt_X1_holds : GoodIn wsX3_ticketAt (wsV RX3 85 RX1 yX1_holds wsX1_holds) := goodIn_app (goodIn_of _ (by decide +kernel)) ggX3_ticketAt_X1_holds
theorem dX3_ticketAt_0 : decode cX3_ticketAt 0 = .ok (.iconst 0, 1) := by decide +kernel
theorem dX3_ticketAt_1 : decode cX3_ticketAt 1 = .ok (.istore 4, 2) := by decide +kernel
theorem dX3_ticketAt_3 : decode cX3_ticketAt 3 = .ok (.iload 4, 2) := by decide +kernel
theorem dX3_ticketAt_5 : decode cX3_ticketAt 5 = .ok (.aload_n 0, 1) := by decide +kernel
theorem dX3_ticketAt_6 : decode cX3_ticketAt 6 = .ok (.getfield 28, 3) := by decide +kernel
theorem dX3_ticketAt_9 : decode cX3_ticketAt 9 = .ok (.if_icmp .ge 37, 3) := by decide +kernel
theorem dX3_ticketAt_12 : decode cX3_ticketAt 12 = .ok (.aload_n 0, 1) := by decide +kernel
theorem dX3_ticketAt_13 : decode cX3_ticketAt 13 = .ok (.getfield 11, 3) := by decide +kernel
theorem dX3_ticketAt_16 : decode cX3_ticketAt 16 = .ok (.iload 4, 2) := by decide +kernel
theorem dX3_ticketAt_18 : decode cX3_ticketAt 18 = .ok (.aaload, 1) := by decide +kernel
theorem dX3_ticketAt_19 : decode cX3_ticketAt 19 = .ok (.astore 5, 2) := by decide +kernel
theorem dX3_ticketAt_21 : decode cX3_ticketAt 21 = .ok (.aload 5, 2) := by decide +kernel
theorem dX3_ticketAt_23 : decode cX3_ticketAt 23 = .ok (.ifnull 17, 3) := by decide +kernel
theorem dX3_ticketAt_26 : decode cX3_ticketAt 26 = .ok (.aload 5, 2) := by decide +kernel
theorem dX3_ticketAt_28 : decode cX3_ticketAt 28 = .ok (.iload_n 1, 1) := by decide +kernel
theorem dX3_ticketAt_29 : decode cX3_ticketAt 29 = .ok (.iload_n 2, 1) := by decide +kernel
theorem dX3_ticketAt_30 : decode cX3_ticketAt 30 = .ok (.iload_n 3, 1) := by decide +kernel
theorem dX3_ticketAt_31 : decode cX3_ticketAt 31 = .ok (.invokevirtual 85, 3) := by decide +kernel
theorem dX3_ticketAt_34 : decode cX3_ticketAt 34 = .ok (.ifCond .eq 6, 3) := by decide +kernel
theorem dX3_ticketAt_37 : decode cX3_ticketAt 37 = .ok (.aload 5, 2) := by decide +kernel
theorem dX3_ticketAt_39 : decode cX3_ticketAt 39 = .ok (.areturn, 1) := by decide +kernel
theorem dX3_ticketAt_40 : decode cX3_ticketAt 40 = .ok (.iinc 4 1, 3) := by decide +kernel
theorem dX3_ticketAt_43 : decode cX3_ticketAt 43 = .ok (.goto (-40), 3) := by decide +kernel
theorem dX3_ticketAt_46 : decode cX3_ticketAt 46 = .ok (.aconst_null, 1) := by decide +kernel
theorem dX3_ticketAt_47 : decode cX3_ticketAt 47 = .ok (.areturn, 1) := by decide +kernel
theorem dX3_chosenAt_0 : decode cX3_chosenAt 0 = .ok (.iload_n 1, 1) := by decide +kernel
theorem dX3_chosenAt_1 : decode cX3_chosenAt 1 = .ok (.ifCond .lt 20, 3) := by decide +kernel
theorem dX3_chosenAt_4 : decode cX3_chosenAt 4 = .ok (.iload_n 1, 1) := by decide +kernel
theorem dX3_chosenAt_5 : decode cX3_chosenAt 5 = .ok (.aload_n 0, 1) := by decide +kernel
theorem dX3_chosenAt_6 : decode cX3_chosenAt 6 = .ok (.getfield 41, 3) := by decide +kernel
theorem dX3_chosenAt_9 : decode cX3_chosenAt 9 = .ok (.if_icmp .ge 12, 3) := by decide +kernel
theorem dX3_chosenAt_12 : decode cX3_chosenAt 12 = .ok (.aload_n 0, 1) := by decide +kernel
theorem dX3_chosenAt_13 : decode cX3_chosenAt 13 = .ok (.getfield 25, 3) := by decide +kernel
theorem dX3_chosenAt_16 : decode cX3_chosenAt 16 = .ok (.iload_n 1, 1) := by decide +kernel
theorem dX3_chosenAt_17 : decode cX3_chosenAt 17 = .ok (.aaload, 1) := by decide +kernel
theorem dX3_chosenAt_18 : decode cX3_chosenAt 18 = .ok (.goto 4, 3) := by decide +kernel
theorem dX3_chosenAt_21 : decode cX3_chosenAt 21 = .ok (.aconst_null, 1) := by decide +kernel
theorem dX3_chosenAt_22 : decode cX3_chosenAt 22 = .ok (.areturn, 1) := by decide +kernel
set_option maxRecDepth 20000 in
theorem ggX4_init_X6_init : GoodIn wsX4_init wsX6_init := goodIn_r _ [11, 12, 2, 3, 13, 14, 15, 16, 17, 18, 7, 19, 20, 21, 22, 23, 27, 28] (by decide +kernel) (by decide +kernel)
set_option maxRecDepth 20000 in
theorem gX4_init_X6_init : GoodIn wsX4_init (wsX6_init) := ggX4_init_X6_init
theorem dX4_init_0 : decode cX4_init 0 = .ok (.aload_n 0, 1) := by decide +kernel
theorem dX4_init_1 : decode cX4_init 1 = .ok (.invokespecial 3, 3) := by decide +kernel
theorem dX4_init_4 : decode cX4_init 4 = .ok (.aload_n 0, 1) := by decide +kernel
theorem dX4_init_5 : decode cX4_init 5 = .ok (.bipush 15, 2) := by decide +kernel
theorem dX4_init_7 : decode cX4_init 7 = .ok (.anewarray 11, 3) := by decide +kernel
theorem dX4_init_10 : decode cX4_init 10 = .ok (.putfield 13, 3) := by decide +kernel
theorem dX4_init_13 : decode cX4_init 13 = .ok (.aload_n 0, 1) := by decide +kernel
theorem dX4_init_14 : decode cX4_init 14 = .ok (.new 11, 3) := by decide +kernel
theorem dX4_init_17 : decode cX4_init 17 = .ok (.dup, 1) := by decide +kernel
theorem dX4_init_18 : decode cX4_init 18 = .ok (.invokespecial 17, 3) := by decide +kernel
theorem dX4_init_21 : decode cX4_init 21 = .ok (.putfield 18, 3) := by decide +kernel
theorem dX4_init_24 : decode cX4_init 24 = .ok (.return_, 1) := by decide +kernel
set_option maxRecDepth 20000 in
theorem ggX4_enact_X6_init : GoodIn wsX4_enact wsX6_init := goodIn_r _ [9, 10, 11, 12, 13, 14, 15, 16, 17, 18, 4, 19, 20, 21, 22, 23, 39, 40] (by decide +kernel) (by decide +kernel)
set_option maxRecDepth 20000 in
theorem gX4_enact_X6_init : GoodIn wsX4_enact (wsX6_init) := ggX4_enact_X6_init
set_option maxRecDepth 20000 in
theorem ggX4_enact_X6_copy : GoodIn wsX4_enact wsX6_copy := goodIn_r _ [27, 14, 28, 29, 30, 31, 39, 40] (by decide +kernel) (by decide +kernel)
set_option maxRecDepth 20000 in
theorem gX4_enact_X6_copy : GoodIn wsX4_enact (wsV RX4 26 RX6 yX6_copy wsX6_copy) := goodIn_app (goodIn_of _ (by decide +kernel)) ggX4_enact_X6_copy
set_option maxRecDepth 20000 in
theorem ggX4_enact_X6_tell : GoodIn wsX4_enact wsX6_tell := goodIn_r _ [35, 14, 39, 40] (by decide +kernel) (by decide +kernel)
set_option maxRecDepth 20000 in
theorem gX4_enact_X6_tell : GoodIn wsX4_enact (wsV RX4 33 RX6 yX6_tell wsX6_tell) := goodIn_app (goodIn_of _ (by decide +kernel)) ggX4_enact_X6_tell
theorem dX4_enact_0 : decode cX4_enact 0 = .ok (.aload_n 0, 1) := by decide +kernel
theorem dX4_enact_1 : decode cX4_enact 1 = .ok (.getfield 22, 3) := by decide +kernel
theorem dX4_enact_4 : decode cX4_enact 4 = .ok (.bipush 15, 2) := by decide +kernel
theorem dX4_enact_6 : decode cX4_enact 6 = .ok (.if_icmp .lt 6, 3) := by decide +kernel
theorem dX4_enact_9 : decode cX4_enact 9 = .ok (.bipush (-3), 2) := by decide +kernel
theorem dX4_enact_11 : decode cX4_enact 11 = .ok (.ireturn, 1) := by decide +kernel
theorem dX4_enact_12 : decode cX4_enact 12 = .ok (.new 11, 3) := by decide +kernel
theorem dX4_enact_15 : decode cX4_enact 15 = .ok (.dup, 1) := by decide +kernel
theorem dX4_enact_16 : decode cX4_enact 16 = .ok (.invokespecial 17, 3) := by decide +kernel
theorem dX4_enact_19 : decode cX4_enact 19 = .ok (.astore_n 3, 1) := by decide +kernel
theorem dX4_enact_20 : decode cX4_enact 20 = .ok (.aload_n 3, 1) := by decide +kernel
theorem dX4_enact_21 : decode cX4_enact 21 = .ok (.aload_n 1, 1) := by decide +kernel
theorem dX4_enact_22 : decode cX4_enact 22 = .ok (.invokevirtual 26, 3) := by decide +kernel
theorem dX4_enact_25 : decode cX4_enact 25 = .ok (.aload_n 3, 1) := by decide +kernel
theorem dX4_enact_26 : decode cX4_enact 26 = .ok (.iload_n 2, 1) := by decide +kernel
theorem dX4_enact_27 : decode cX4_enact 27 = .ok (.putfield 30, 3) := by decide +kernel
theorem dX4_enact_30 : decode cX4_enact 30 = .ok (.aload_n 3, 1) := by decide +kernel
theorem dX4_enact_31 : decode cX4_enact 31 = .ok (.bipush 50, 2) := by decide +kernel
theorem dX4_enact_33 : decode cX4_enact 33 = .ok (.aload_n 0, 1) := by decide +kernel
theorem dX4_enact_34 : decode cX4_enact 34 = .ok (.getfield 22, 3) := by decide +kernel
theorem dX4_enact_37 : decode cX4_enact 37 = .ok (.invokevirtual 33, 3) := by decide +kernel
theorem dX4_enact_40 : decode cX4_enact 40 = .ok (.aload_n 0, 1) := by decide +kernel
theorem dX4_enact_41 : decode cX4_enact 41 = .ok (.getfield 13, 3) := by decide +kernel
theorem dX4_enact_44 : decode cX4_enact 44 = .ok (.aload_n 0, 1) := by decide +kernel
theorem dX4_enact_45 : decode cX4_enact 45 = .ok (.getfield 22, 3) := by decide +kernel
theorem dX4_enact_48 : decode cX4_enact 48 = .ok (.aload_n 3, 1) := by decide +kernel
theorem dX4_enact_49 : decode cX4_enact 49 = .ok (.aastore, 1) := by decide +kernel
theorem dX4_enact_50 : decode cX4_enact 50 = .ok (.aload_n 0, 1) := by decide +kernel
theorem dX4_enact_51 : decode cX4_enact 51 = .ok (.dup, 1) := by decide +kernel
theorem dX4_enact_52 : decode cX4_enact 52 = .ok (.getfield 22, 3) := by decide +kernel
theorem dX4_enact_55 : decode cX4_enact 55 = .ok (.iconst 1, 1) := by decide +kernel
theorem dX4_enact_56 : decode cX4_enact 56 = .ok (.iadd, 1) := by decide +kernel
theorem dX4_enact_57 : decode cX4_enact 57 = .ok (.putfield 22, 3) := by decide +kernel
theorem dX4_enact_60 : decode cX4_enact 60 = .ok (.aload_n 0, 1) := by decide +kernel
theorem dX4_enact_61 : decode cX4_enact 61 = .ok (.getfield 22, 3) := by decide +kernel
theorem dX4_enact_64 : decode cX4_enact 64 = .ok (.iconst 1, 1) := by decide +kernel
theorem dX4_enact_65 : decode cX4_enact 65 = .ok (.isub, 1) := by decide +kernel
theorem dX4_enact_66 : decode cX4_enact 66 = .ok (.ireturn, 1) := by decide +kernel
theorem dX4_inForce_0 : decode cX4_inForce 0 = .ok (.aload_n 0, 1) := by decide +kernel
theorem dX4_inForce_1 : decode cX4_inForce 1 = .ok (.getfield 18, 3) := by decide +kernel
theorem dX4_inForce_4 : decode cX4_inForce 4 = .ok (.astore_n 2, 1) := by decide +kernel
theorem dX4_inForce_5 : decode cX4_inForce 5 = .ok (.iconst 0, 1) := by decide +kernel
theorem dX4_inForce_6 : decode cX4_inForce 6 = .ok (.istore_n 3, 1) := by decide +kernel
theorem dX4_inForce_7 : decode cX4_inForce 7 = .ok (.iload_n 3, 1) := by decide +kernel
theorem dX4_inForce_8 : decode cX4_inForce 8 = .ok (.aload_n 0, 1) := by decide +kernel
theorem dX4_inForce_9 : decode cX4_inForce 9 = .ok (.getfield 22, 3) := by decide +kernel
theorem dX4_inForce_12 : decode cX4_inForce 12 = .ok (.if_icmp .ge 46, 3) := by decide +kernel
theorem dX4_inForce_15 : decode cX4_inForce 15 = .ok (.aload_n 0, 1) := by decide +kernel
theorem dX4_inForce_16 : decode cX4_inForce 16 = .ok (.getfield 13, 3) := by decide +kernel
theorem dX4_inForce_19 : decode cX4_inForce 19 = .ok (.iload_n 3, 1) := by decide +kernel
theorem dX4_inForce_20 : decode cX4_inForce 20 = .ok (.aaload, 1) := by decide +kernel
theorem dX4_inForce_21 : decode cX4_inForce 21 = .ok (.astore 4, 2) := by decide +kernel
theorem dX4_inForce_23 : decode cX4_inForce 23 = .ok (.aload 4, 2) := by decide +kernel
theorem dX4_inForce_25 : decode cX4_inForce 25 = .ok (.ifnull 27, 3) := by decide +kernel
theorem dX4_inForce_28 : decode cX4_inForce 28 = .ok (.aload 4, 2) := by decide +kernel
theorem dX4_inForce_30 : decode cX4_inForce 30 = .ok (.getfield 30, 3) := by decide +kernel
theorem dX4_inForce_33 : decode cX4_inForce 33 = .ok (.iload_n 1, 1) := by decide +kernel
theorem dX4_inForce_34 : decode cX4_inForce 34 = .ok (.if_icmp .gt 18, 3) := by decide +kernel
theorem dX4_inForce_37 : decode cX4_inForce 37 = .ok (.aload 4, 2) := by decide +kernel
theorem dX4_inForce_39 : decode cX4_inForce 39 = .ok (.getfield 30, 3) := by decide +kernel
theorem dX4_inForce_42 : decode cX4_inForce 42 = .ok (.aload_n 2, 1) := by decide +kernel
theorem dX4_inForce_43 : decode cX4_inForce 43 = .ok (.getfield 30, 3) := by decide +kernel
theorem dX4_inForce_46 : decode cX4_inForce 46 = .ok (.if_icmp .lt 6, 3) := by decide +kernel
theorem dX4_inForce_49 : decode cX4_inForce 49 = .ok (.aload 4, 2) := by decide +kernel
theorem dX4_inForce_51 : decode cX4_inForce 51 = .ok (.astore_n 2, 1) := by decide +kernel
theorem dX4_inForce_52 : decode cX4_inForce 52 = .ok (.iinc 3 1, 3) := by decide +kernel
theorem dX4_inForce_55 : decode cX4_inForce 55 = .ok (.goto (-48), 3) := by decide +kernel
theorem dX4_inForce_58 : decode cX4_inForce 58 = .ok (.aload_n 2, 1) := by decide +kernel
theorem dX4_inForce_59 : decode cX4_inForce 59 = .ok (.areturn, 1) := by decide +kernel
set_option maxRecDepth 20000 in
theorem ggX5_init_X6_init : GoodIn wsX5_init wsX6_init := goodIn_r _ [15, 16, 2, 3, 17, 18, 19, 20, 21, 22, 6, 23, 24, 25, 26, 27, 28, 29] (by decide +kernel) (by decide +kernel)
set_option maxRecDepth 20000 in
theorem gX5_init_X6_init : GoodIn wsX5_init (wsX6_init) := ggX5_init_X6_init
theorem dX5_init_0 : decode cX5_init 0 = .ok (.aload_n 0, 1) := by decide +kernel
theorem dX5_init_1 : decode cX5_init 1 = .ok (.invokespecial 3, 3) := by decide +kernel
theorem dX5_init_4 : decode cX5_init 4 = .ok (.aload_n 0, 1) := by decide +kernel
theorem dX5_init_5 : decode cX5_init 5 = .ok (.new 9, 3) := by decide +kernel
theorem dX5_init_8 : decode cX5_init 8 = .ok (.dup, 1) := by decide +kernel
theorem dX5_init_9 : decode cX5_init 9 = .ok (.invokespecial 11, 3) := by decide +kernel
theorem dX5_init_12 : decode cX5_init 12 = .ok (.putfield 12, 3) := by decide +kernel
theorem dX5_init_15 : decode cX5_init 15 = .ok (.aload_n 0, 1) := by decide +kernel
theorem dX5_init_16 : decode cX5_init 16 = .ok (.iconst 4, 1) := by decide +kernel
theorem dX5_init_17 : decode cX5_init 17 = .ok (.newarray .boolean, 2) := by decide +kernel
theorem dX5_init_19 : decode cX5_init 19 = .ok (.putfield 18, 3) := by decide +kernel
theorem dX5_init_22 : decode cX5_init 22 = .ok (.aload_n 0, 1) := by decide +kernel
theorem dX5_init_23 : decode cX5_init 23 = .ok (.bipush 6, 2) := by decide +kernel
theorem dX5_init_25 : decode cX5_init 25 = .ok (.newarray .boolean, 2) := by decide +kernel
theorem dX5_init_27 : decode cX5_init 27 = .ok (.putfield 22, 3) := by decide +kernel
theorem dX5_init_30 : decode cX5_init 30 = .ok (.aload_n 0, 1) := by decide +kernel
theorem dX5_init_31 : decode cX5_init 31 = .ok (.aload_n 1, 1) := by decide +kernel
theorem dX5_init_32 : decode cX5_init 32 = .ok (.putfield 25, 3) := by decide +kernel
theorem dX5_init_35 : decode cX5_init 35 = .ok (.aload_n 0, 1) := by decide +kernel
theorem dX5_init_36 : decode cX5_init 36 = .ok (.iconst (-1), 1) := by decide +kernel
theorem dX5_init_37 : decode cX5_init 37 = .ok (.putfield 29, 3) := by decide +kernel
theorem dX5_init_40 : decode cX5_init 40 = .ok (.return_, 1) := by decide +kernel
set_option maxRecDepth 20000 in
theorem ggX5_readText_X5_startAnew : GoodIn wsX5_readText wsX5_startAnew := goodIn_r _ [6, 7, 8, 9, 10, 11, 12, 13, 14, 15, 16, 17, 18, 19, 20, 21, 22, 148, 149, 150, 151, 152, 153, 154, 155, 156, 157, 158, 159] (by decide +kernel) (by decide +kernel)
set_option maxRecDepth 20000 in
theorem gX5_readText_X5_startAnew : GoodIn wsX5_readText (wsV RX5 33 RX5 yX5_startAnew wsX5_startAnew) := goodIn_app (goodIn_of _ (by decide +kernel)) ggX5_readText_X5_startAnew
set_option maxRecDepth 20000 in
theorem ggX5_readText_X5_advance : GoodIn wsX5_readText wsX5_advance := goodIn_r _ [26, 27, 12, 28, 29, 1, 30, 31, 32, 33, 34, 35, 36, 37, 38, 39, 40, 41, 42, 43, 44, 45, 46, 47, 5, 48, 49, 50, 148, 149, 150, 151, 152, 153, 154, 155, 156, 157, 160, 161] (by decide +kernel) (by decide +kernel)
set_option maxRecDepth 20000 in
theorem gX5_readText_X5_advance : GoodIn wsX5_readText (wsV RX5 36 RX5 yX5_advance wsX5_advance) := goodIn_app (goodIn_of _ (by decide +kernel)) ggX5_readText_X5_advance
set_option maxRecDepth 20000 in
theorem ggX5_readText_X5_readLine : GoodIn wsX5_readText wsX5_readLine := goodIn_r _ [54, 55, 56, 57, 5, 58, 1, 12, 28, 27, 59, 60, 61, 62, 63, 64, 65, 66, 67, 68, 69, 70, 71, 72, 73, 74, 75, 76, 77, 78, 79, 80, 81, 82, 83, 84, 85, 86, 87, 88, 89, 90, 91, 92, 93, 94, 95, 96, 97, 98, 99, 100, 101, 102, 103, 104, 105, 106, 107, 37, 38, 39, 33, 40, 35, 36, 108, 109, 110, 111, 8, 112, 113, 114, 115, 10, 11, 23, 24, 25, 26, 29, 30, 31, 32, 34, 41, 42, 43, 44, 45, 46, 47, 48, 49, 50, 116, 117, 118, 119, 7, 120, 121, 122, 16, 123, 18, 124, 125, 126, 127, 128, 129, 130, 131, 132, 133, 134, 135, 136, 137, 138, 139, 9, 140, 141, 142, 143, 148, 149, 150, 151, 152, 153, 154, 155, 156, 157, 160, 161, 158, 159] (by decide +kernel) (by decide +kernel)
set_option maxRecDepth 20000 in
theorem gX5_readText_X5_readLine : GoodIn wsX5_readText (wsV RX5 44 RX5 yX5_readLine wsX5_readLine) := goodIn_app (goodIn_of _ (by decide +kernel)) ggX5_readText_X5_readLine
set_option maxRecDepth 20000 in
theorem ggX5_readText_X5_takeSemicolon : GoodIn wsX5_readText wsX5_takeSemicolon := goodIn_r _ [147, 1, 112, 113, 114, 5, 115, 10, 28, 11, 23, 24, 25, 26, 27, 12, 29, 30, 31, 32, 33, 34, 35, 36, 37, 38, 39, 40, 41, 42, 43, 44, 45, 46, 47, 48, 49, 50, 148, 149, 150, 151, 152, 153, 154, 155, 156, 157, 160, 161] (by decide +kernel) (by decide +kernel)
set_option maxRecDepth 20000 in
theorem gX5_readText_X5_takeSemicolon : GoodIn wsX5_readText (wsV RX5 48 RX5 yX5_takeSemicolon wsX5_takeSemicolon) := goodIn_app (goodIn_of _ (by decide +kernel)) ggX5_readText_X5_takeSemicolon
theorem dX5_readText_0 : decode cX5_readText 0 = .ok (.aload_n 0, 1) := by decide +kernel
theorem dX5_readText_1 : decode cX5_readText 1 = .ok (.invokevirtual 33, 3) := by decide +kernel
theorem dX5_readText_4 : decode cX5_readText 4 = .ok (.aload_n 0, 1) := by decide +kernel
theorem dX5_readText_5 : decode cX5_readText 5 = .ok (.invokevirtual 36, 3) := by decide +kernel
theorem dX5_readText_8 : decode cX5_readText 8 = .ok (.iconst 1, 1) := by decide +kernel
theorem dX5_readText_9 : decode cX5_readText 9 = .ok (.istore_n 1, 1) := by decide +kernel
theorem dX5_readText_10 : decode cX5_readText 10 = .ok (.iconst 0, 1) := by decide +kernel
theorem dX5_readText_11 : decode cX5_readText 11 = .ok (.istore_n 2, 1) := by decide +kernel
theorem dX5_readText_12 : decode cX5_readText 12 = .ok (.iload_n 2, 1) := by decide +kernel
theorem dX5_readText_13 : decode cX5_readText 13 = .ok (.sipush 1000, 3) := by decide +kernel
theorem dX5_readText_16 : decode cX5_readText 16 = .ok (.if_icmp .gt 40, 3) := by decide +kernel
theorem dX5_readText_19 : decode cX5_readText 19 = .ok (.iload_n 1, 1) := by decide +kernel
theorem dX5_readText_20 : decode cX5_readText 20 = .ok (.ifCond .eq 36, 3) := by decide +kernel
theorem dX5_readText_23 : decode cX5_readText 23 = .ok (.aload_n 0, 1) := by decide +kernel
theorem dX5_readText_24 : decode cX5_readText 24 = .ok (.getfield 41, 3) := by decide +kernel
theorem dX5_readText_27 : decode cX5_readText 27 = .ok (.ifCond .eq 29, 3) := by decide +kernel
theorem dX5_readText_30 : decode cX5_readText 30 = .ok (.aload_n 0, 1) := by decide +kernel
theorem dX5_readText_31 : decode cX5_readText 31 = .ok (.invokevirtual 44, 3) := by decide +kernel
theorem dX5_readText_34 : decode cX5_readText 34 = .ok (.ifCond .eq 14, 3) := by decide +kernel
theorem dX5_readText_37 : decode cX5_readText 37 = .ok (.aload_n 0, 1) := by decide +kernel
theorem dX5_readText_38 : decode cX5_readText 38 = .ok (.invokevirtual 48, 3) := by decide +kernel
theorem dX5_readText_41 : decode cX5_readText 41 = .ok (.ifCond .eq 7, 3) := by decide +kernel
theorem dX5_readText_44 : decode cX5_readText 44 = .ok (.iconst 1, 1) := by decide +kernel
theorem dX5_readText_45 : decode cX5_readText 45 = .ok (.goto 4, 3) := by decide +kernel
theorem dX5_readText_48 : decode cX5_readText 48 = .ok (.iconst 0, 1) := by decide +kernel
theorem dX5_readText_49 : decode cX5_readText 49 = .ok (.istore_n 1, 1) := by decide +kernel
theorem dX5_readText_50 : decode cX5_readText 50 = .ok (.iinc 2 1, 3) := by decide +kernel
