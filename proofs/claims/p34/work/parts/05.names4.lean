theorem dX2_widened_37 : decode cX2_widened 37 = .ok (.istore 4, 2) := by decide +kernel
theorem dX2_widened_39 : decode cX2_widened 39 = .ok (.aload_n 0, 1) := by decide +kernel
theorem dX2_widened_40 : decode cX2_widened 40 = .ok (.iload 4, 2) := by decide +kernel
theorem dX2_widened_42 : decode cX2_widened 42 = .ok (.invokevirtual 72, 3) := by decide +kernel
theorem dX2_widened_45 : decode cX2_widened 45 = .ok (.ifCond .eq 5, 3) := by decide +kernel
theorem dX2_widened_48 : decode cX2_widened 48 = .ok (.iconst (-1), 1) := by decide +kernel
theorem dX2_widened_49 : decode cX2_widened 49 = .ok (.ireturn, 1) := by decide +kernel
theorem dX2_widened_50 : decode cX2_widened 50 = .ok (.new 9, 3) := by decide +kernel
theorem dX2_widened_53 : decode cX2_widened 53 = .ok (.dup, 1) := by decide +kernel
theorem dX2_widened_54 : decode cX2_widened 54 = .ok (.iload_n 2, 1) := by decide +kernel
theorem dX2_widened_55 : decode cX2_widened 55 = .ok (.aload_n 3, 1) := by decide +kernel
theorem dX2_widened_56 : decode cX2_widened 56 = .ok (.getfield 76, 3) := by decide +kernel
theorem dX2_widened_59 : decode cX2_widened 59 = .ok (.invokespecial 55, 3) := by decide +kernel
theorem dX2_widened_62 : decode cX2_widened 62 = .ok (.astore 5, 2) := by decide +kernel
theorem dX2_widened_64 : decode cX2_widened 64 = .ok (.aload 5, 2) := by decide +kernel
theorem dX2_widened_66 : decode cX2_widened 66 = .ok (.aload_n 3, 1) := by decide +kernel
theorem dX2_widened_67 : decode cX2_widened 67 = .ok (.invokevirtual 135, 3) := by decide +kernel
theorem dX2_widened_70 : decode cX2_widened 70 = .ok (.aload_n 0, 1) := by decide +kernel
theorem dX2_widened_71 : decode cX2_widened 71 = .ok (.aload 5, 2) := by decide +kernel
theorem dX2_widened_73 : decode cX2_widened 73 = .ok (.invokevirtual 58, 3) := by decide +kernel
theorem dX2_widened_76 : decode cX2_widened 76 = .ok (.ireturn, 1) := by decide +kernel
theorem dX2_code_0 : decode cX2_code 0 = .ok (.aload_n 0, 1) := by decide +kernel
theorem dX2_code_1 : decode cX2_code 1 = .ok (.getfield 30, 3) := by decide +kernel
theorem dX2_code_4 : decode cX2_code 4 = .ok (.ireturn, 1) := by decide +kernel
theorem dX2_count_0 : decode cX2_count 0 = .ok (.iload_n 1, 1) := by decide +kernel
theorem dX2_count_1 : decode cX2_count 1 = .ok (.ifCond .lt 12, 3) := by decide +kernel
theorem dX2_count_4 : decode cX2_count 4 = .ok (.iload_n 1, 1) := by decide +kernel
theorem dX2_count_5 : decode cX2_count 5 = .ok (.aload_n 0, 1) := by decide +kernel
theorem dX2_count_6 : decode cX2_count 6 = .ok (.getfield 15, 3) := by decide +kernel
theorem dX2_count_9 : decode cX2_count 9 = .ok (.arraylength, 1) := by decide +kernel
theorem dX2_count_10 : decode cX2_count 10 = .ok (.if_icmp .lt 13, 3) := by decide +kernel
theorem dX2_count_13 : decode cX2_count 13 = .ok (.new 139, 3) := by decide +kernel
theorem dX2_count_16 : decode cX2_count 16 = .ok (.dup, 1) := by decide +kernel
theorem dX2_count_17 : decode cX2_count 17 = .ok (.ldc 141, 2) := by decide +kernel
theorem dX2_count_19 : decode cX2_count 19 = .ok (.invokespecial 143, 3) := by decide +kernel
theorem dX2_count_22 : decode cX2_count 22 = .ok (.athrow, 1) := by decide +kernel
theorem dX2_count_23 : decode cX2_count 23 = .ok (.aload_n 0, 1) := by decide +kernel
theorem dX2_count_24 : decode cX2_count 24 = .ok (.getfield 15, 3) := by decide +kernel
theorem dX2_count_27 : decode cX2_count 27 = .ok (.iload_n 1, 1) := by decide +kernel
theorem dX2_count_28 : decode cX2_count 28 = .ok (.iaload, 1) := by decide +kernel
theorem dX2_count_29 : decode cX2_count 29 = .ok (.ireturn, 1) := by decide +kernel
theorem dX2_isKind_0 : decode cX2_isKind 0 = .ok (.iload_n 0, 1) := by decide +kernel
theorem dX2_isKind_1 : decode cX2_isKind 1 = .ok (.ifCond .lt 13, 3) := by decide +kernel
theorem dX2_isKind_4 : decode cX2_isKind 4 = .ok (.iload_n 0, 1) := by decide +kernel
theorem dX2_isKind_5 : decode cX2_isKind 5 = .ok (.bipush 9, 2) := by decide +kernel
theorem dX2_isKind_7 : decode cX2_isKind 7 = .ok (.if_icmp .gt 7, 3) := by decide +kernel
theorem dX2_isKind_10 : decode cX2_isKind 10 = .ok (.iconst 1, 1) := by decide +kernel
theorem dX2_isKind_11 : decode cX2_isKind 11 = .ok (.goto 4, 3) := by decide +kernel
theorem dX2_isKind_14 : decode cX2_isKind 14 = .ok (.iconst 0, 1) := by decide +kernel
theorem dX2_isKind_15 : decode cX2_isKind 15 = .ok (.ireturn, 1) := by decide +kernel
theorem dX2_holdsCells_0 : decode cX2_holdsCells 0 = .ok (.iload_n 0, 1) := by decide +kernel
theorem dX2_holdsCells_1 : decode cX2_holdsCells 1 = .ok (.iconst 1, 1) := by decide +kernel
theorem dX2_holdsCells_2 : decode cX2_holdsCells 2 = .ok (.if_icmp .lt 13, 3) := by decide +kernel
theorem dX2_holdsCells_5 : decode cX2_holdsCells 5 = .ok (.iload_n 0, 1) := by decide +kernel
theorem dX2_holdsCells_6 : decode cX2_holdsCells 6 = .ok (.bipush 8, 2) := by decide +kernel
theorem dX2_holdsCells_8 : decode cX2_holdsCells 8 = .ok (.if_icmp .gt 7, 3) := by decide +kernel
theorem dX2_holdsCells_11 : decode cX2_holdsCells 11 = .ok (.iconst 1, 1) := by decide +kernel
theorem dX2_holdsCells_12 : decode cX2_holdsCells 12 = .ok (.goto 4, 3) := by decide +kernel
theorem dX2_holdsCells_15 : decode cX2_holdsCells 15 = .ok (.iconst 0, 1) := by decide +kernel
theorem dX2_holdsCells_16 : decode cX2_holdsCells 16 = .ok (.ireturn, 1) := by decide +kernel
theorem dX2_isLength_0 : decode cX2_isLength 0 = .ok (.iload_n 0, 1) := by decide +kernel
theorem dX2_isLength_1 : decode cX2_isLength 1 = .ok (.ifCond .lt 13, 3) := by decide +kernel
theorem dX2_isLength_4 : decode cX2_isLength 4 = .ok (.iload_n 0, 1) := by decide +kernel
theorem dX2_isLength_5 : decode cX2_isLength 5 = .ok (.bipush 40, 2) := by decide +kernel
theorem dX2_isLength_7 : decode cX2_isLength 7 = .ok (.if_icmp .gt 7, 3) := by decide +kernel
theorem dX2_isLength_10 : decode cX2_isLength 10 = .ok (.iconst 1, 1) := by decide +kernel
theorem dX2_isLength_11 : decode cX2_isLength 11 = .ok (.goto 4, 3) := by decide +kernel
theorem dX2_isLength_14 : decode cX2_isLength 14 = .ok (.iconst 0, 1) := by decide +kernel
theorem dX2_isLength_15 : decode cX2_isLength 15 = .ok (.ireturn, 1) := by decide +kernel
theorem dX2_isFloating_0 : decode cX2_isFloating 0 = .ok (.iload_n 0, 1) := by decide +kernel
theorem dX2_isFloating_1 : decode cX2_isFloating 1 = .ok (.bipush 7, 2) := by decide +kernel
theorem dX2_isFloating_3 : decode cX2_isFloating 3 = .ok (.if_icmp .eq 9, 3) := by decide +kernel
theorem dX2_isFloating_6 : decode cX2_isFloating 6 = .ok (.iload_n 0, 1) := by decide +kernel
theorem dX2_isFloating_7 : decode cX2_isFloating 7 = .ok (.bipush 8, 2) := by decide +kernel
theorem dX2_isFloating_9 : decode cX2_isFloating 9 = .ok (.if_icmp .ne 7, 3) := by decide +kernel
theorem dX2_isFloating_12 : decode cX2_isFloating 12 = .ok (.iconst 1, 1) := by decide +kernel
theorem dX2_isFloating_13 : decode cX2_isFloating 13 = .ok (.goto 4, 3) := by decide +kernel
theorem dX2_isFloating_16 : decode cX2_isFloating 16 = .ok (.iconst 0, 1) := by decide +kernel
theorem dX2_isFloating_17 : decode cX2_isFloating 17 = .ok (.ireturn, 1) := by decide +kernel
set_option maxRecDepth 20000 in
theorem ggX2_widens_X2_holdsCells : GoodIn wsX2_widens wsX2_holdsCells := goodIn_r _ [4] (by decide +kernel) (by decide +kernel)
set_option maxRecDepth 20000 in
theorem gX2_widens_X2_holdsCells : GoodIn wsX2_widens (va_wsS RX2 44 yX2_holdsCells wsX2_holdsCells) := goodIn_app (goodIn_of _ (by decide +kernel)) ggX2_widens_X2_holdsCells
theorem dX2_widens_0 : decode cX2_widens 0 = .ok (.iload_n 0, 1) := by decide +kernel
theorem dX2_widens_1 : decode cX2_widens 1 = .ok (.invokestatic 44, 3) := by decide +kernel
theorem dX2_widens_4 : decode cX2_widens 4 = .ok (.ifCond .eq 10, 3) := by decide +kernel
theorem dX2_widens_7 : decode cX2_widens 7 = .ok (.iload_n 1, 1) := by decide +kernel
theorem dX2_widens_8 : decode cX2_widens 8 = .ok (.invokestatic 44, 3) := by decide +kernel
theorem dX2_widens_11 : decode cX2_widens 11 = .ok (.ifCond .ne 5, 3) := by decide +kernel
theorem dX2_widens_14 : decode cX2_widens 14 = .ok (.iconst 0, 1) := by decide +kernel
theorem dX2_widens_15 : decode cX2_widens 15 = .ok (.ireturn, 1) := by decide +kernel
theorem dX2_widens_16 : decode cX2_widens 16 = .ok (.iload_n 0, 1) := by decide +kernel
theorem dX2_widens_17 : decode cX2_widens 17 = .ok (.iload_n 1, 1) := by decide +kernel
theorem dX2_widens_18 : decode cX2_widens 18 = .ok (.if_icmp .ne 5, 3) := by decide +kernel
theorem dX2_widens_21 : decode cX2_widens 21 = .ok (.iconst 1, 1) := by decide +kernel
theorem dX2_widens_22 : decode cX2_widens 22 = .ok (.ireturn, 1) := by decide +kernel
theorem dX2_widens_23 : decode cX2_widens 23 = .ok (.iload_n 0, 1) := by decide +kernel
theorem dX2_widens_24 : decode cX2_widens 24 = .ok (.iconst 1, 1) := by decide +kernel
theorem dX2_widens_25 : decode cX2_widens 25 = .ok (.if_icmp .eq 8, 3) := by decide +kernel
theorem dX2_widens_28 : decode cX2_widens 28 = .ok (.iload_n 1, 1) := by decide +kernel
theorem dX2_widens_29 : decode cX2_widens 29 = .ok (.iconst 3, 1) := by decide +kernel
theorem dX2_widens_30 : decode cX2_widens 30 = .ok (.if_icmp .ne 5, 3) := by decide +kernel
theorem dX2_widens_33 : decode cX2_widens 33 = .ok (.iconst 0, 1) := by decide +kernel
theorem dX2_widens_34 : decode cX2_widens 34 = .ok (.ireturn, 1) := by decide +kernel
theorem dX2_widens_35 : decode cX2_widens 35 = .ok (.iload_n 0, 1) := by decide +kernel
theorem dX2_widens_36 : decode cX2_widens 36 = .ok (.iconst 3, 1) := by decide +kernel
theorem dX2_widens_37 : decode cX2_widens 37 = .ok (.if_icmp .ne 16, 3) := by decide +kernel
theorem dX2_widens_40 : decode cX2_widens 40 = .ok (.iload_n 1, 1) := by decide +kernel
theorem dX2_widens_41 : decode cX2_widens 41 = .ok (.iconst 5, 1) := by decide +kernel
theorem dX2_widens_42 : decode cX2_widens 42 = .ok (.if_icmp .lt 7, 3) := by decide +kernel
theorem dX2_widens_45 : decode cX2_widens 45 = .ok (.iconst 1, 1) := by decide +kernel
theorem dX2_widens_46 : decode cX2_widens 46 = .ok (.goto 17, 3) := by decide +kernel
theorem dX2_widens_49 : decode cX2_widens 49 = .ok (.iconst 0, 1) := by decide +kernel
theorem dX2_widens_50 : decode cX2_widens 50 = .ok (.goto 13, 3) := by decide +kernel
theorem dX2_widens_53 : decode cX2_widens 53 = .ok (.iload_n 0, 1) := by decide +kernel
theorem dX2_widens_54 : decode cX2_widens 54 = .ok (.iload_n 1, 1) := by decide +kernel
theorem dX2_widens_55 : decode cX2_widens 55 = .ok (.if_icmp .ge 7, 3) := by decide +kernel
theorem dX2_widens_58 : decode cX2_widens 58 = .ok (.iconst 1, 1) := by decide +kernel
theorem dX2_widens_59 : decode cX2_widens 59 = .ok (.goto 4, 3) := by decide +kernel
theorem dX2_widens_62 : decode cX2_widens 62 = .ok (.iconst 0, 1) := by decide +kernel
theorem dX2_widens_63 : decode cX2_widens 63 = .ok (.ireturn, 1) := by decide +kernel
theorem dX2_isPart_0 : decode cX2_isPart 0 = .ok (.iload_n 0, 1) := by decide +kernel
theorem dX2_isPart_1 : decode cX2_isPart 1 = .ok (.ifCond .lt 18, 3) := by decide +kernel
theorem dX2_isPart_4 : decode cX2_isPart 4 = .ok (.iload_n 1, 1) := by decide +kernel
theorem dX2_isPart_5 : decode cX2_isPart 5 = .ok (.ifCond .lt 14, 3) := by decide +kernel
theorem dX2_isPart_8 : decode cX2_isPart 8 = .ok (.iload_n 0, 1) := by decide +kernel
theorem dX2_isPart_9 : decode cX2_isPart 9 = .ok (.iload_n 2, 1) := by decide +kernel
theorem dX2_isPart_10 : decode cX2_isPart 10 = .ok (.iload_n 1, 1) := by decide +kernel
theorem dX2_isPart_11 : decode cX2_isPart 11 = .ok (.isub, 1) := by decide +kernel
theorem dX2_isPart_12 : decode cX2_isPart 12 = .ok (.if_icmp .gt 7, 3) := by decide +kernel
theorem dX2_isPart_15 : decode cX2_isPart 15 = .ok (.iconst 1, 1) := by decide +kernel
theorem dX2_isPart_16 : decode cX2_isPart 16 = .ok (.goto 4, 3) := by decide +kernel
theorem dX2_isPart_19 : decode cX2_isPart 19 = .ok (.iconst 0, 1) := by decide +kernel
theorem dX2_isPart_20 : decode cX2_isPart 20 = .ok (.ireturn, 1) := by decide +kernel
set_option maxRecDepth 20000 in
theorem ggX2_refuseWithoutCells_X2_holdsCells : GoodIn wsX2_refuseWithoutCells wsX2_holdsCells := goodIn_r _ [6] (by decide +kernel) (by decide +kernel)
set_option maxRecDepth 20000 in
theorem gX2_refuseWithoutCells_X2_holdsCells : GoodIn wsX2_refuseWithoutCells (va_wsS RX2 44 yX2_holdsCells wsX2_holdsCells) := goodIn_app (goodIn_of _ (by decide +kernel)) ggX2_refuseWithoutCells_X2_holdsCells
theorem dX2_refuseWithoutCells_0 : decode cX2_refuseWithoutCells 0 = .ok (.iload_n 0, 1) := by decide +kernel
theorem dX2_refuseWithoutCells_1 : decode cX2_refuseWithoutCells 1 = .ok (.invokestatic 44, 3) := by decide +kernel
theorem dX2_refuseWithoutCells_4 : decode cX2_refuseWithoutCells 4 = .ok (.ifCond .ne 13, 3) := by decide +kernel
theorem dX2_refuseWithoutCells_7 : decode cX2_refuseWithoutCells 7 = .ok (.new 37, 3) := by decide +kernel
theorem dX2_refuseWithoutCells_10 : decode cX2_refuseWithoutCells 10 = .ok (.dup, 1) := by decide +kernel
theorem dX2_refuseWithoutCells_11 : decode cX2_refuseWithoutCells 11 = .ok (.ldc 157, 2) := by decide +kernel
theorem dX2_refuseWithoutCells_13 : decode cX2_refuseWithoutCells 13 = .ok (.invokespecial 41, 3) := by decide +kernel
theorem dX2_refuseWithoutCells_16 : decode cX2_refuseWithoutCells 16 = .ok (.athrow, 1) := by decide +kernel
theorem dX2_refuseWithoutCells_17 : decode cX2_refuseWithoutCells 17 = .ok (.return_, 1) := by decide +kernel
theorem dX2_refuseWhenFull_0 : decode cX2_refuseWhenFull 0 = .ok (.aload_n 0, 1) := by decide +kernel
theorem dX2_refuseWhenFull_1 : decode cX2_refuseWhenFull 1 = .ok (.getfield 26, 3) := by decide +kernel
theorem dX2_refuseWhenFull_4 : decode cX2_refuseWhenFull 4 = .ok (.aload_n 0, 1) := by decide +kernel
theorem dX2_refuseWhenFull_5 : decode cX2_refuseWhenFull 5 = .ok (.getfield 11, 3) := by decide +kernel
theorem dX2_refuseWhenFull_8 : decode cX2_refuseWhenFull 8 = .ok (.arraylength, 1) := by decide +kernel
theorem dX2_refuseWhenFull_9 : decode cX2_refuseWhenFull 9 = .ok (.if_icmp .lt 13, 3) := by decide +kernel
theorem dX2_refuseWhenFull_12 : decode cX2_refuseWhenFull 12 = .ok (.new 159, 3) := by decide +kernel
theorem dX2_refuseWhenFull_15 : decode cX2_refuseWhenFull 15 = .ok (.dup, 1) := by decide +kernel
theorem dX2_refuseWhenFull_16 : decode cX2_refuseWhenFull 16 = .ok (.ldc 161, 2) := by decide +kernel
theorem dX2_refuseWhenFull_18 : decode cX2_refuseWhenFull 18 = .ok (.invokespecial 163, 3) := by decide +kernel
theorem dX2_refuseWhenFull_21 : decode cX2_refuseWhenFull 21 = .ok (.athrow, 1) := by decide +kernel
theorem dX2_refuseWhenFull_22 : decode cX2_refuseWhenFull 22 = .ok (.return_, 1) := by decide +kernel
theorem dX2_columnAt_0 : decode cX2_columnAt 0 = .ok (.iload_n 1, 1) := by decide +kernel
theorem dX2_columnAt_1 : decode cX2_columnAt 1 = .ok (.ifCond .lt 21, 3) := by decide +kernel
theorem dX2_columnAt_4 : decode cX2_columnAt 4 = .ok (.iload_n 1, 1) := by decide +kernel
theorem dX2_columnAt_5 : decode cX2_columnAt 5 = .ok (.aload_n 0, 1) := by decide +kernel
theorem dX2_columnAt_6 : decode cX2_columnAt 6 = .ok (.getfield 11, 3) := by decide +kernel
theorem dX2_columnAt_9 : decode cX2_columnAt 9 = .ok (.arraylength, 1) := by decide +kernel
theorem dX2_columnAt_10 : decode cX2_columnAt 10 = .ok (.if_icmp .ge 12, 3) := by decide +kernel
theorem dX2_columnAt_13 : decode cX2_columnAt 13 = .ok (.aload_n 0, 1) := by decide +kernel
theorem dX2_columnAt_14 : decode cX2_columnAt 14 = .ok (.getfield 11, 3) := by decide +kernel
theorem dX2_columnAt_17 : decode cX2_columnAt 17 = .ok (.iload_n 1, 1) := by decide +kernel
theorem dX2_columnAt_18 : decode cX2_columnAt 18 = .ok (.aaload, 1) := by decide +kernel
theorem dX2_columnAt_19 : decode cX2_columnAt 19 = .ok (.goto 4, 3) := by decide +kernel
theorem dX2_columnAt_22 : decode cX2_columnAt 22 = .ok (.aconst_null, 1) := by decide +kernel
theorem dX2_columnAt_23 : decode cX2_columnAt 23 = .ok (.astore_n 2, 1) := by decide +kernel
theorem dX2_columnAt_24 : decode cX2_columnAt 24 = .ok (.aload_n 2, 1) := by decide +kernel
theorem dX2_columnAt_25 : decode cX2_columnAt 25 = .ok (.ifnonnull 13, 3) := by decide +kernel
theorem dX2_columnAt_28 : decode cX2_columnAt 28 = .ok (.new 139, 3) := by decide +kernel
theorem dX2_columnAt_31 : decode cX2_columnAt 31 = .ok (.dup, 1) := by decide +kernel
theorem dX2_columnAt_32 : decode cX2_columnAt 32 = .ok (.ldc 164, 2) := by decide +kernel
theorem dX2_columnAt_34 : decode cX2_columnAt 34 = .ok (.invokespecial 143, 3) := by decide +kernel
theorem dX2_columnAt_37 : decode cX2_columnAt 37 = .ok (.athrow, 1) := by decide +kernel
theorem dX2_columnAt_38 : decode cX2_columnAt 38 = .ok (.aload_n 2, 1) := by decide +kernel
theorem dX2_columnAt_39 : decode cX2_columnAt 39 = .ok (.areturn, 1) := by decide +kernel
theorem dX2_addColumn_0 : decode cX2_addColumn 0 = .ok (.aload_n 0, 1) := by decide +kernel
theorem dX2_addColumn_1 : decode cX2_addColumn 1 = .ok (.getfield 26, 3) := by decide +kernel
theorem dX2_addColumn_4 : decode cX2_addColumn 4 = .ok (.istore_n 2, 1) := by decide +kernel
theorem dX2_addColumn_5 : decode cX2_addColumn 5 = .ok (.iload_n 2, 1) := by decide +kernel
theorem dX2_addColumn_6 : decode cX2_addColumn 6 = .ok (.ifCond .lt 26, 3) := by decide +kernel
theorem dX2_addColumn_9 : decode cX2_addColumn 9 = .ok (.iload_n 2, 1) := by decide +kernel
theorem dX2_addColumn_10 : decode cX2_addColumn 10 = .ok (.aload_n 0, 1) := by decide +kernel
theorem dX2_addColumn_11 : decode cX2_addColumn 11 = .ok (.getfield 11, 3) := by decide +kernel
theorem dX2_addColumn_14 : decode cX2_addColumn 14 = .ok (.arraylength, 1) := by decide +kernel
theorem dX2_addColumn_15 : decode cX2_addColumn 15 = .ok (.if_icmp .ge 17, 3) := by decide +kernel
theorem dX2_addColumn_18 : decode cX2_addColumn 18 = .ok (.aload_n 0, 1) := by decide +kernel
theorem dX2_addColumn_19 : decode cX2_addColumn 19 = .ok (.getfield 11, 3) := by decide +kernel
theorem dX2_addColumn_22 : decode cX2_addColumn 22 = .ok (.iload_n 2, 1) := by decide +kernel
theorem dX2_addColumn_23 : decode cX2_addColumn 23 = .ok (.aload_n 1, 1) := by decide +kernel
theorem dX2_addColumn_24 : decode cX2_addColumn 24 = .ok (.aastore, 1) := by decide +kernel
theorem dX2_addColumn_25 : decode cX2_addColumn 25 = .ok (.aload_n 0, 1) := by decide +kernel
theorem dX2_addColumn_26 : decode cX2_addColumn 26 = .ok (.iload_n 2, 1) := by decide +kernel
theorem dX2_addColumn_27 : decode cX2_addColumn 27 = .ok (.iconst 1, 1) := by decide +kernel
theorem dX2_addColumn_28 : decode cX2_addColumn 28 = .ok (.iadd, 1) := by decide +kernel
theorem dX2_addColumn_29 : decode cX2_addColumn 29 = .ok (.putfield 26, 3) := by decide +kernel
theorem dX2_addColumn_32 : decode cX2_addColumn 32 = .ok (.iload_n 2, 1) := by decide +kernel
theorem dX2_addColumn_33 : decode cX2_addColumn 33 = .ok (.ireturn, 1) := by decide +kernel
theorem dX2_note_0 : decode cX2_note 0 = .ok (.iload_n 1, 1) := by decide +kernel
theorem dX2_note_1 : decode cX2_note 1 = .ok (.ifCond .lt 22, 3) := by decide +kernel
theorem dX2_note_4 : decode cX2_note 4 = .ok (.iload_n 1, 1) := by decide +kernel
theorem dX2_note_5 : decode cX2_note 5 = .ok (.aload_n 0, 1) := by decide +kernel
theorem dX2_note_6 : decode cX2_note 6 = .ok (.getfield 15, 3) := by decide +kernel
theorem dX2_note_9 : decode cX2_note 9 = .ok (.arraylength, 1) := by decide +kernel
theorem dX2_note_10 : decode cX2_note 10 = .ok (.if_icmp .ge 13, 3) := by decide +kernel
theorem dX2_note_13 : decode cX2_note 13 = .ok (.aload_n 0, 1) := by decide +kernel
theorem dX2_note_14 : decode cX2_note 14 = .ok (.getfield 15, 3) := by decide +kernel
theorem dX2_note_17 : decode cX2_note 17 = .ok (.iload_n 1, 1) := by decide +kernel
theorem dX2_note_18 : decode cX2_note 18 = .ok (.dup2, 1) := by decide +kernel
theorem dX2_note_19 : decode cX2_note 19 = .ok (.iaload, 1) := by decide +kernel
theorem dX2_note_20 : decode cX2_note 20 = .ok (.iconst 1, 1) := by decide +kernel
theorem dX2_note_21 : decode cX2_note 21 = .ok (.iadd, 1) := by decide +kernel
theorem dX2_note_22 : decode cX2_note 22 = .ok (.iastore, 1) := by decide +kernel
theorem dX2_note_23 : decode cX2_note 23 = .ok (.aload_n 0, 1) := by decide +kernel
theorem dX2_note_24 : decode cX2_note 24 = .ok (.iload_n 1, 1) := by decide +kernel
theorem dX2_note_25 : decode cX2_note 25 = .ok (.putfield 30, 3) := by decide +kernel
theorem dX2_note_28 : decode cX2_note 28 = .ok (.iload_n 1, 1) := by decide +kernel
theorem dX2_note_29 : decode cX2_note 29 = .ok (.ireturn, 1) := by decide +kernel
theorem dX2_codeOfColumn_0 : decode cX2_codeOfColumn 0 = .ok (.aload_n 0, 1) := by decide +kernel
theorem dX2_codeOfColumn_1 : decode cX2_codeOfColumn 1 = .ok (.getfield 66, 3) := by decide +kernel
theorem dX2_codeOfColumn_4 : decode cX2_codeOfColumn 4 = .ok (.ifCond .ne 5, 3) := by decide +kernel
theorem dX2_codeOfColumn_7 : decode cX2_codeOfColumn 7 = .ok (.iconst 1, 1) := by decide +kernel
theorem dX2_codeOfColumn_8 : decode cX2_codeOfColumn 8 = .ok (.ireturn, 1) := by decide +kernel
theorem dX2_codeOfColumn_9 : decode cX2_codeOfColumn 9 = .ok (.aload_n 0, 1) := by decide +kernel
theorem dX2_codeOfColumn_10 : decode cX2_codeOfColumn 10 = .ok (.getfield 66, 3) := by decide +kernel
theorem dX2_codeOfColumn_13 : decode cX2_codeOfColumn 13 = .ok (.bipush 9, 2) := by decide +kernel
theorem dX2_codeOfColumn_15 : decode cX2_codeOfColumn 15 = .ok (.if_icmp .ne 7, 3) := by decide +kernel
theorem dX2_codeOfColumn_18 : decode cX2_codeOfColumn 18 = .ok (.iconst 2, 1) := by decide +kernel
theorem dX2_codeOfColumn_19 : decode cX2_codeOfColumn 19 = .ok (.goto 4, 3) := by decide +kernel
theorem dX2_codeOfColumn_22 : decode cX2_codeOfColumn 22 = .ok (.iconst 0, 1) := by decide +kernel
theorem dX2_codeOfColumn_23 : decode cX2_codeOfColumn 23 = .ok (.ireturn, 1) := by decide +kernel
set_option maxRecDepth 20000 in
theorem ggX2_codeOfCell_X2_codeOfColumn : GoodIn wsX2_codeOfCell wsX2_codeOfColumn := goodIn_r _ [5, 6, 13, 14, 15, 16] (by decide +kernel) (by decide +kernel)
set_option maxRecDepth 20000 in
theorem gX2_codeOfCell_X2_codeOfColumn : GoodIn wsX2_codeOfCell (va_wsS RX2 69 yX2_codeOfColumn wsX2_codeOfColumn) := goodIn_app (goodIn_of _ (by decide +kernel)) ggX2_codeOfCell_X2_codeOfColumn
set_option maxRecDepth 20000 in
theorem ggX2_codeOfCell_X2_widens : GoodIn wsX2_codeOfCell wsX2_widens := goodIn_r _ [9, 10, 11, 4, 12] (by decide +kernel) (by decide +kernel)
set_option maxRecDepth 20000 in
theorem gX2_codeOfCell_X2_widens : GoodIn wsX2_codeOfCell (va_wsS RX2 131 yX2_widens wsX2_widens) := goodIn_app (goodIn_of _ (by decide +kernel)) ggX2_codeOfCell_X2_widens
theorem dX2_codeOfCell_0 : decode cX2_codeOfCell 0 = .ok (.aload_n 0, 1) := by decide +kernel
theorem dX2_codeOfCell_1 : decode cX2_codeOfCell 1 = .ok (.invokestatic 69, 3) := by decide +kernel
theorem dX2_codeOfCell_4 : decode cX2_codeOfCell 4 = .ok (.istore 4, 2) := by decide +kernel
theorem dX2_codeOfCell_6 : decode cX2_codeOfCell 6 = .ok (.iload 4, 2) := by decide +kernel
theorem dX2_codeOfCell_8 : decode cX2_codeOfCell 8 = .ok (.ifCond .eq 6, 3) := by decide +kernel
theorem dX2_codeOfCell_11 : decode cX2_codeOfCell 11 = .ok (.iload 4, 2) := by decide +kernel
theorem dX2_codeOfCell_13 : decode cX2_codeOfCell 13 = .ok (.ireturn, 1) := by decide +kernel
theorem dX2_codeOfCell_14 : decode cX2_codeOfCell 14 = .ok (.iload_n 1, 1) := by decide +kernel
theorem dX2_codeOfCell_15 : decode cX2_codeOfCell 15 = .ok (.ifCond .lt 11, 3) := by decide +kernel
theorem dX2_codeOfCell_18 : decode cX2_codeOfCell 18 = .ok (.iload_n 1, 1) := by decide +kernel
theorem dX2_codeOfCell_19 : decode cX2_codeOfCell 19 = .ok (.aload_n 0, 1) := by decide +kernel
theorem dX2_codeOfCell_20 : decode cX2_codeOfCell 20 = .ok (.getfield 76, 3) := by decide +kernel
theorem dX2_codeOfCell_23 : decode cX2_codeOfCell 23 = .ok (.if_icmp .lt 5, 3) := by decide +kernel
theorem dX2_codeOfCell_26 : decode cX2_codeOfCell 26 = .ok (.iconst 3, 1) := by decide +kernel
theorem dX2_codeOfCell_27 : decode cX2_codeOfCell 27 = .ok (.ireturn, 1) := by decide +kernel
theorem dX2_codeOfCell_28 : decode cX2_codeOfCell 28 = .ok (.iload_n 2, 1) := by decide +kernel
theorem dX2_codeOfCell_29 : decode cX2_codeOfCell 29 = .ok (.iload_n 3, 1) := by decide +kernel
theorem dX2_codeOfCell_30 : decode cX2_codeOfCell 30 = .ok (.invokestatic 131, 3) := by decide +kernel
theorem dX2_codeOfCell_33 : decode cX2_codeOfCell 33 = .ok (.ifCond .eq 7, 3) := by decide +kernel
theorem dX2_codeOfCell_36 : decode cX2_codeOfCell 36 = .ok (.iconst 0, 1) := by decide +kernel
theorem dX2_codeOfCell_37 : decode cX2_codeOfCell 37 = .ok (.goto 4, 3) := by decide +kernel
theorem dX2_codeOfCell_40 : decode cX2_codeOfCell 40 = .ok (.iconst 4, 1) := by decide +kernel
theorem dX2_codeOfCell_41 : decode cX2_codeOfCell 41 = .ok (.ireturn, 1) := by decide +kernel
theorem dX2_codeOfKinds_0 : decode cX2_codeOfKinds 0 = .ok (.aload_n 0, 1) := by decide +kernel
theorem dX2_codeOfKinds_1 : decode cX2_codeOfKinds 1 = .ok (.getfield 66, 3) := by decide +kernel
theorem dX2_codeOfKinds_4 : decode cX2_codeOfKinds 4 = .ok (.ifCond .eq 10, 3) := by decide +kernel
theorem dX2_codeOfKinds_7 : decode cX2_codeOfKinds 7 = .ok (.aload_n 1, 1) := by decide +kernel
theorem dX2_codeOfKinds_8 : decode cX2_codeOfKinds 8 = .ok (.getfield 66, 3) := by decide +kernel
theorem dX2_codeOfKinds_11 : decode cX2_codeOfKinds 11 = .ok (.ifCond .ne 5, 3) := by decide +kernel
theorem dX2_codeOfKinds_14 : decode cX2_codeOfKinds 14 = .ok (.iconst 1, 1) := by decide +kernel
theorem dX2_codeOfKinds_15 : decode cX2_codeOfKinds 15 = .ok (.ireturn, 1) := by decide +kernel
theorem dX2_codeOfKinds_16 : decode cX2_codeOfKinds 16 = .ok (.aload_n 0, 1) := by decide +kernel
theorem dX2_codeOfKinds_17 : decode cX2_codeOfKinds 17 = .ok (.getfield 66, 3) := by decide +kernel
theorem dX2_codeOfKinds_20 : decode cX2_codeOfKinds 20 = .ok (.aload_n 1, 1) := by decide +kernel
theorem dX2_codeOfKinds_21 : decode cX2_codeOfKinds 21 = .ok (.getfield 66, 3) := by decide +kernel
theorem dX2_codeOfKinds_24 : decode cX2_codeOfKinds 24 = .ok (.if_icmp .ne 16, 3) := by decide +kernel
theorem dX2_codeOfKinds_27 : decode cX2_codeOfKinds 27 = .ok (.aload_n 0, 1) := by decide +kernel
theorem dX2_codeOfKinds_28 : decode cX2_codeOfKinds 28 = .ok (.getfield 66, 3) := by decide +kernel
theorem dX2_codeOfKinds_31 : decode cX2_codeOfKinds 31 = .ok (.bipush 9, 2) := by decide +kernel
theorem dX2_codeOfKinds_33 : decode cX2_codeOfKinds 33 = .ok (.if_icmp .eq 7, 3) := by decide +kernel
theorem dX2_codeOfKinds_36 : decode cX2_codeOfKinds 36 = .ok (.iconst 1, 1) := by decide +kernel
theorem dX2_codeOfKinds_37 : decode cX2_codeOfKinds 37 = .ok (.goto 4, 3) := by decide +kernel
theorem dX2_codeOfKinds_40 : decode cX2_codeOfKinds 40 = .ok (.iconst 0, 1) := by decide +kernel
theorem dX2_codeOfKinds_41 : decode cX2_codeOfKinds 41 = .ok (.istore_n 2, 1) := by decide +kernel
theorem dX2_codeOfKinds_42 : decode cX2_codeOfKinds 42 = .ok (.iload_n 2, 1) := by decide +kernel
theorem dX2_codeOfKinds_43 : decode cX2_codeOfKinds 43 = .ok (.ifCond .eq 7, 3) := by decide +kernel
theorem dX2_codeOfKinds_46 : decode cX2_codeOfKinds 46 = .ok (.iconst 0, 1) := by decide +kernel
theorem dX2_codeOfKinds_47 : decode cX2_codeOfKinds 47 = .ok (.goto 4, 3) := by decide +kernel
theorem dX2_codeOfKinds_50 : decode cX2_codeOfKinds 50 = .ok (.iconst 5, 1) := by decide +kernel
theorem dX2_codeOfKinds_51 : decode cX2_codeOfKinds 51 = .ok (.ireturn, 1) := by decide +kernel
set_option maxRecDepth 20000 in
theorem ggX2_readReal_X2_codeOfCell : GoodIn wsX2_readReal wsX2_codeOfCell := goodIn_r _ [5, 6, 7, 8, 4, 9, 1, 10, 11, 12, 13, 14, 15, 40, 41, 42, 43] (by decide +kernel) (by decide +kernel)
set_option maxRecDepth 20000 in
theorem gX2_readReal_X2_codeOfCell : GoodIn wsX2_readReal (va_wsS RX2 83 yX2_codeOfCell wsX2_codeOfCell) := goodIn_app (goodIn_of _ (by decide +kernel)) ggX2_readReal_X2_codeOfCell
set_option maxRecDepth 20000 in
theorem ggX2_readReal_X2_note : GoodIn wsX2_readReal wsX2_note := goodIn_r _ [19, 20, 21, 44, 45, 46, 47, 48] (by decide +kernel) (by decide +kernel)
set_option maxRecDepth 20000 in
theorem gX2_readReal_X2_note : GoodIn wsX2_readReal (wsV RX2 72 RX2 yX2_note wsX2_note) := goodIn_app (goodIn_of _ (by decide +kernel)) ggX2_readReal_X2_note
set_option maxRecDepth 20000 in
theorem ggX2_readReal_X0_doubleAt : GoodIn wsX2_readReal wsX0_doubleAt := goodIn_r _ [26, 27, 28, 4, 29, 30, 31, 32, 25, 33, 34, 35, 36, 37, 38, 39, 40, 41, 42, 43] (by decide +kernel) (by decide +kernel)
set_option maxRecDepth 20000 in
theorem gX2_readReal_X0_doubleAt : GoodIn wsX2_readReal (wsV RX2 170 RX0 yX0_doubleAt wsX0_doubleAt) := goodIn_app (goodIn_of _ (by decide +kernel)) ggX2_readReal_X0_doubleAt
theorem dX2_readReal_0 : decode cX2_readReal 0 = .ok (.aload_n 0, 1) := by decide +kernel
theorem dX2_readReal_1 : decode cX2_readReal 1 = .ok (.aload_n 1, 1) := by decide +kernel
theorem dX2_readReal_2 : decode cX2_readReal 2 = .ok (.iload_n 2, 1) := by decide +kernel
theorem dX2_readReal_3 : decode cX2_readReal 3 = .ok (.aload_n 1, 1) := by decide +kernel
theorem dX2_readReal_4 : decode cX2_readReal 4 = .ok (.getfield 66, 3) := by decide +kernel
theorem dX2_readReal_7 : decode cX2_readReal 7 = .ok (.iload_n 3, 1) := by decide +kernel
theorem dX2_readReal_8 : decode cX2_readReal 8 = .ok (.invokestatic 83, 3) := by decide +kernel
theorem dX2_readReal_11 : decode cX2_readReal 11 = .ok (.invokevirtual 72, 3) := by decide +kernel
theorem dX2_readReal_14 : decode cX2_readReal 14 = .ok (.istore 4, 2) := by decide +kernel
theorem dX2_readReal_16 : decode cX2_readReal 16 = .ok (.iload 4, 2) := by decide +kernel
theorem dX2_readReal_18 : decode cX2_readReal 18 = .ok (.ifCond .ne 11, 3) := by decide +kernel
theorem dX2_readReal_21 : decode cX2_readReal 21 = .ok (.aload_n 1, 1) := by decide +kernel
theorem dX2_readReal_22 : decode cX2_readReal 22 = .ok (.iload_n 2, 1) := by decide +kernel
theorem dX2_readReal_23 : decode cX2_readReal 23 = .ok (.invokevirtual 170, 3) := by decide +kernel
theorem dX2_readReal_26 : decode cX2_readReal 26 = .ok (.goto 4, 3) := by decide +kernel
theorem dX2_readReal_29 : decode cX2_readReal 29 = .ok (.dconst 0, 1) := by decide +kernel
theorem dX2_readReal_30 : decode cX2_readReal 30 = .ok (.dreturn, 1) := by decide +kernel
set_option maxRecDepth 20000 in
theorem ggX2_writeWhole_X2_codeOfCell : GoodIn wsX2_writeWhole wsX2_codeOfCell := goodIn_r _ [5, 6, 7, 8, 4, 9, 1, 10, 11, 12, 13, 14, 15, 34, 35, 36, 37] (by decide +kernel) (by decide +kernel)
set_option maxRecDepth 20000 in
theorem gX2_writeWhole_X2_codeOfCell : GoodIn wsX2_writeWhole (va_wsS RX2 83 yX2_codeOfCell wsX2_codeOfCell) := goodIn_app (goodIn_of _ (by decide +kernel)) ggX2_writeWhole_X2_codeOfCell
set_option maxRecDepth 20000 in
theorem ggX2_writeWhole_X2_note : GoodIn wsX2_writeWhole wsX2_note := goodIn_r _ [19, 20, 21, 38, 39, 40, 41, 42] (by decide +kernel) (by decide +kernel)
set_option maxRecDepth 20000 in
theorem gX2_writeWhole_X2_note : GoodIn wsX2_writeWhole (wsV RX2 72 RX2 yX2_note wsX2_note) := goodIn_app (goodIn_of _ (by decide +kernel)) ggX2_writeWhole_X2_note
set_option maxRecDepth 20000 in
theorem ggX2_writeWhole_X0_putWhole : GoodIn wsX2_writeWhole wsX0_putWhole := goodIn_r _ [26, 27, 28, 29, 30, 31, 25, 32, 33, 34, 35, 36, 37] (by decide +kernel) (by decide +kernel)
set_option maxRecDepth 20000 in
theorem gX2_writeWhole_X0_putWhole : GoodIn wsX2_writeWhole (wsV RX2 174 RX0 yX0_putWhole wsX0_putWhole) := goodIn_app (goodIn_of _ (by decide +kernel)) ggX2_writeWhole_X0_putWhole
theorem dX2_writeWhole_0 : decode cX2_writeWhole 0 = .ok (.aload_n 0, 1) := by decide +kernel
theorem dX2_writeWhole_1 : decode cX2_writeWhole 1 = .ok (.aload_n 1, 1) := by decide +kernel
theorem dX2_writeWhole_2 : decode cX2_writeWhole 2 = .ok (.iload_n 2, 1) := by decide +kernel
theorem dX2_writeWhole_3 : decode cX2_writeWhole 3 = .ok (.iload_n 3, 1) := by decide +kernel
theorem dX2_writeWhole_4 : decode cX2_writeWhole 4 = .ok (.aload_n 1, 1) := by decide +kernel
theorem dX2_writeWhole_5 : decode cX2_writeWhole 5 = .ok (.getfield 66, 3) := by decide +kernel
theorem dX2_writeWhole_8 : decode cX2_writeWhole 8 = .ok (.invokestatic 83, 3) := by decide +kernel
theorem dX2_writeWhole_11 : decode cX2_writeWhole 11 = .ok (.invokevirtual 72, 3) := by decide +kernel
theorem dX2_writeWhole_14 : decode cX2_writeWhole 14 = .ok (.istore 6, 2) := by decide +kernel
theorem dX2_writeWhole_16 : decode cX2_writeWhole 16 = .ok (.iload 6, 2) := by decide +kernel
theorem dX2_writeWhole_18 : decode cX2_writeWhole 18 = .ok (.ifCond .ne 10, 3) := by decide +kernel
theorem dX2_writeWhole_21 : decode cX2_writeWhole 21 = .ok (.aload_n 1, 1) := by decide +kernel
theorem dX2_writeWhole_22 : decode cX2_writeWhole 22 = .ok (.iload_n 2, 1) := by decide +kernel
theorem dX2_writeWhole_23 : decode cX2_writeWhole 23 = .ok (.lload 4, 2) := by decide +kernel
theorem dX2_writeWhole_25 : decode cX2_writeWhole 25 = .ok (.invokevirtual 174, 3) := by decide +kernel
theorem dX2_writeWhole_28 : decode cX2_writeWhole 28 = .ok (.iload 6, 2) := by decide +kernel
theorem dX2_writeWhole_30 : decode cX2_writeWhole 30 = .ok (.ireturn, 1) := by decide +kernel
set_option maxRecDepth 20000 in
theorem ggX2_writeReal_X2_codeOfCell : GoodIn wsX2_writeReal wsX2_codeOfCell := goodIn_r _ [5, 6, 7, 8, 4, 9, 1, 10, 11, 12, 13, 14, 15, 28, 29, 30, 31] (by decide +kernel) (by decide +kernel)
set_option maxRecDepth 20000 in
theorem gX2_writeReal_X2_codeOfCell : GoodIn wsX2_writeReal (va_wsS RX2 83 yX2_codeOfCell wsX2_codeOfCell) := goodIn_app (goodIn_of _ (by decide +kernel)) ggX2_writeReal_X2_codeOfCell
set_option maxRecDepth 20000 in
theorem ggX2_writeReal_X2_note : GoodIn wsX2_writeReal wsX2_note := goodIn_r _ [19, 20, 21, 32, 33, 34, 35, 36] (by decide +kernel) (by decide +kernel)
set_option maxRecDepth 20000 in
theorem gX2_writeReal_X2_note : GoodIn wsX2_writeReal (wsV RX2 72 RX2 yX2_note wsX2_note) := goodIn_app (goodIn_of _ (by decide +kernel)) ggX2_writeReal_X2_note
set_option maxRecDepth 20000 in
theorem ggX2_writeReal_X0_putReal : GoodIn wsX2_writeReal wsX0_putReal := goodIn_r _ [26, 27, 28, 29, 30, 31] (by decide +kernel) (by decide +kernel)
set_option maxRecDepth 20000 in
theorem gX2_writeReal_X0_putReal : GoodIn wsX2_writeReal (wsV RX2 178 RX0 yX0_putReal wsX0_putReal) := goodIn_app (goodIn_of _ (by decide +kernel)) ggX2_writeReal_X0_putReal
theorem dX2_writeReal_0 : decode cX2_writeReal 0 = .ok (.aload_n 0, 1) := by decide +kernel
theorem dX2_writeReal_1 : decode cX2_writeReal 1 = .ok (.aload_n 1, 1) := by decide +kernel
theorem dX2_writeReal_2 : decode cX2_writeReal 2 = .ok (.iload_n 2, 1) := by decide +kernel
theorem dX2_writeReal_3 : decode cX2_writeReal 3 = .ok (.iload_n 3, 1) := by decide +kernel
theorem dX2_writeReal_4 : decode cX2_writeReal 4 = .ok (.aload_n 1, 1) := by decide +kernel
theorem dX2_writeReal_5 : decode cX2_writeReal 5 = .ok (.getfield 66, 3) := by decide +kernel
theorem dX2_writeReal_8 : decode cX2_writeReal 8 = .ok (.invokestatic 83, 3) := by decide +kernel
theorem dX2_writeReal_11 : decode cX2_writeReal 11 = .ok (.invokevirtual 72, 3) := by decide +kernel
theorem dX2_writeReal_14 : decode cX2_writeReal 14 = .ok (.istore 6, 2) := by decide +kernel
theorem dX2_writeReal_16 : decode cX2_writeReal 16 = .ok (.iload 6, 2) := by decide +kernel
theorem dX2_writeReal_18 : decode cX2_writeReal 18 = .ok (.ifCond .ne 10, 3) := by decide +kernel
theorem dX2_writeReal_21 : decode cX2_writeReal 21 = .ok (.aload_n 1, 1) := by decide +kernel
theorem dX2_writeReal_22 : decode cX2_writeReal 22 = .ok (.iload_n 2, 1) := by decide +kernel
theorem dX2_writeReal_23 : decode cX2_writeReal 23 = .ok (.dload 4, 2) := by decide +kernel
theorem dX2_writeReal_25 : decode cX2_writeReal 25 = .ok (.invokevirtual 178, 3) := by decide +kernel
theorem dX2_writeReal_28 : decode cX2_writeReal 28 = .ok (.iload 6, 2) := by decide +kernel
theorem dX2_writeReal_30 : decode cX2_writeReal 30 = .ok (.ireturn, 1) := by decide +kernel
theorem dX2_wholeMadeFrom_0 : decode cX2_wholeMadeFrom 0 = .ok (.iload_n 1, 1) := by decide +kernel
theorem dX2_wholeMadeFrom_1 : decode cX2_wholeMadeFrom 1 = .ok (.tableswitch 53 1 4 #[31, 41, 45, 49], 31) := by decide +kernel
theorem dX2_wholeMadeFrom_32 : decode cX2_wholeMadeFrom 32 = .ok (.iload_n 0, 1) := by decide +kernel
theorem dX2_wholeMadeFrom_33 : decode cX2_wholeMadeFrom 33 = .ok (.ifCond .eq 7, 3) := by decide +kernel
theorem dX2_wholeMadeFrom_36 : decode cX2_wholeMadeFrom 36 = .ok (.lconst 1, 1) := by decide +kernel
theorem dX2_wholeMadeFrom_37 : decode cX2_wholeMadeFrom 37 = .ok (.goto 4, 3) := by decide +kernel
theorem dX2_wholeMadeFrom_40 : decode cX2_wholeMadeFrom 40 = .ok (.lconst 0, 1) := by decide +kernel
theorem dX2_wholeMadeFrom_41 : decode cX2_wholeMadeFrom 41 = .ok (.lreturn, 1) := by decide +kernel
theorem dX2_wholeMadeFrom_42 : decode cX2_wholeMadeFrom 42 = .ok (.iload_n 0, 1) := by decide +kernel
theorem dX2_wholeMadeFrom_43 : decode cX2_wholeMadeFrom 43 = .ok (.i2b, 1) := by decide +kernel
theorem dX2_wholeMadeFrom_44 : decode cX2_wholeMadeFrom 44 = .ok (.i2l, 1) := by decide +kernel
theorem dX2_wholeMadeFrom_45 : decode cX2_wholeMadeFrom 45 = .ok (.lreturn, 1) := by decide +kernel
theorem dX2_wholeMadeFrom_46 : decode cX2_wholeMadeFrom 46 = .ok (.iload_n 0, 1) := by decide +kernel
theorem dX2_wholeMadeFrom_47 : decode cX2_wholeMadeFrom 47 = .ok (.i2c, 1) := by decide +kernel
theorem dX2_wholeMadeFrom_48 : decode cX2_wholeMadeFrom 48 = .ok (.i2l, 1) := by decide +kernel
theorem dX2_wholeMadeFrom_49 : decode cX2_wholeMadeFrom 49 = .ok (.lreturn, 1) := by decide +kernel
theorem dX2_wholeMadeFrom_50 : decode cX2_wholeMadeFrom 50 = .ok (.iload_n 0, 1) := by decide +kernel
theorem dX2_wholeMadeFrom_51 : decode cX2_wholeMadeFrom 51 = .ok (.i2s, 1) := by decide +kernel
theorem dX2_wholeMadeFrom_52 : decode cX2_wholeMadeFrom 52 = .ok (.i2l, 1) := by decide +kernel
theorem dX2_wholeMadeFrom_53 : decode cX2_wholeMadeFrom 53 = .ok (.lreturn, 1) := by decide +kernel
theorem dX2_wholeMadeFrom_54 : decode cX2_wholeMadeFrom 54 = .ok (.iload_n 0, 1) := by decide +kernel
theorem dX2_wholeMadeFrom_55 : decode cX2_wholeMadeFrom 55 = .ok (.i2l, 1) := by decide +kernel
theorem dX2_wholeMadeFrom_56 : decode cX2_wholeMadeFrom 56 = .ok (.lreturn, 1) := by decide +kernel
theorem dX2_noNumber_0 : decode cX2_noNumber 0 = .ok (.ldc2_w 182, 3) := by decide +kernel
theorem dX2_noNumber_3 : decode cX2_noNumber 3 = .ok (.dreturn, 1) := by decide +kernel
theorem dX2_isInfinite_0 : decode cX2_isInfinite 0 = .ok (.dload_n 0, 1) := by decide +kernel
theorem dX2_isInfinite_1 : decode cX2_isInfinite 1 = .ok (.ldc2_w 192, 3) := by decide +kernel
theorem dX2_isInfinite_4 : decode cX2_isInfinite 4 = .ok (.dcmp .l, 1) := by decide +kernel
theorem dX2_isInfinite_5 : decode cX2_isInfinite 5 = .ok (.ifCond .gt 11, 3) := by decide +kernel
theorem dX2_isInfinite_8 : decode cX2_isInfinite 8 = .ok (.dload_n 0, 1) := by decide +kernel
theorem dX2_isInfinite_9 : decode cX2_isInfinite 9 = .ok (.ldc2_w 194, 3) := by decide +kernel
theorem dX2_isInfinite_12 : decode cX2_isInfinite 12 = .ok (.dcmp .g, 1) := by decide +kernel
theorem dX2_isInfinite_13 : decode cX2_isInfinite 13 = .ok (.ifCond .ge 7, 3) := by decide +kernel
theorem dX2_isInfinite_16 : decode cX2_isInfinite 16 = .ok (.iconst 1, 1) := by decide +kernel
theorem dX2_isInfinite_17 : decode cX2_isInfinite 17 = .ok (.goto 4, 3) := by decide +kernel
theorem dX2_isInfinite_20 : decode cX2_isInfinite 20 = .ok (.iconst 0, 1) := by decide +kernel
theorem dX2_isInfinite_21 : decode cX2_isInfinite 21 = .ok (.ireturn, 1) := by decide +kernel
set_option maxRecDepth 20000 in
theorem ggX2_sumOf_X2_isInfinite : GoodIn wsX2_sumOf wsX2_isInfinite := goodIn_r _ [4, 5, 6] (by decide +kernel) (by decide +kernel)
set_option maxRecDepth 20000 in
theorem gX2_sumOf_X2_isInfinite : GoodIn wsX2_sumOf (va_wsS RX2 196 yX2_isInfinite wsX2_isInfinite) := goodIn_app (goodIn_of _ (by decide +kernel)) ggX2_sumOf_X2_isInfinite
set_option maxRecDepth 20000 in
theorem ggX2_sumOf_X2_noNumber : GoodIn wsX2_sumOf wsX2_noNumber := goodIn_r _ [9, 10] (by decide +kernel) (by decide +kernel)
set_option maxRecDepth 20000 in
theorem gX2_sumOf_X2_noNumber : GoodIn wsX2_sumOf (va_wsS RX2 185 yX2_noNumber wsX2_noNumber) := goodIn_app (goodIn_of _ (by decide +kernel)) ggX2_sumOf_X2_noNumber
theorem dX2_sumOf_0 : decode cX2_sumOf 0 = .ok (.dload_n 0, 1) := by decide +kernel
theorem dX2_sumOf_1 : decode cX2_sumOf 1 = .ok (.dload_n 0, 1) := by decide +kernel
theorem dX2_sumOf_2 : decode cX2_sumOf 2 = .ok (.dcmp .l, 1) := by decide +kernel
theorem dX2_sumOf_3 : decode cX2_sumOf 3 = .ok (.ifCond .ne 23, 3) := by decide +kernel
theorem dX2_sumOf_6 : decode cX2_sumOf 6 = .ok (.dload_n 2, 1) := by decide +kernel
theorem dX2_sumOf_7 : decode cX2_sumOf 7 = .ok (.dload_n 2, 1) := by decide +kernel
theorem dX2_sumOf_8 : decode cX2_sumOf 8 = .ok (.dcmp .l, 1) := by decide +kernel
theorem dX2_sumOf_9 : decode cX2_sumOf 9 = .ok (.ifCond .ne 17, 3) := by decide +kernel
theorem dX2_sumOf_12 : decode cX2_sumOf 12 = .ok (.dload_n 0, 1) := by decide +kernel
theorem dX2_sumOf_13 : decode cX2_sumOf 13 = .ok (.invokestatic 196, 3) := by decide +kernel
theorem dX2_sumOf_16 : decode cX2_sumOf 16 = .ok (.ifCond .eq 14, 3) := by decide +kernel
theorem dX2_sumOf_19 : decode cX2_sumOf 19 = .ok (.dload_n 0, 1) := by decide +kernel
theorem dX2_sumOf_20 : decode cX2_sumOf 20 = .ok (.dload_n 2, 1) := by decide +kernel
theorem dX2_sumOf_21 : decode cX2_sumOf 21 = .ok (.dneg, 1) := by decide +kernel
theorem dX2_sumOf_22 : decode cX2_sumOf 22 = .ok (.dcmp .l, 1) := by decide +kernel
theorem dX2_sumOf_23 : decode cX2_sumOf 23 = .ok (.ifCond .ne 7, 3) := by decide +kernel
theorem dX2_sumOf_26 : decode cX2_sumOf 26 = .ok (.invokestatic 185, 3) := by decide +kernel
theorem dX2_sumOf_29 : decode cX2_sumOf 29 = .ok (.dreturn, 1) := by decide +kernel
theorem dX2_sumOf_30 : decode cX2_sumOf 30 = .ok (.dload_n 0, 1) := by decide +kernel
theorem dX2_sumOf_31 : decode cX2_sumOf 31 = .ok (.dload_n 2, 1) := by decide +kernel
theorem dX2_sumOf_32 : decode cX2_sumOf 32 = .ok (.dadd, 1) := by decide +kernel
theorem dX2_sumOf_33 : decode cX2_sumOf 33 = .ok (.dreturn, 1) := by decide +kernel
set_option maxRecDepth 20000 in
theorem ggJ0_charAt_5068e_J0_isLatin1_aae02 : GoodIn wsJ0_charAt_5068e wsJ0_isLatin1_aae02 := goodIn_r _ [6, 7, 8] (by decide +kernel) (by decide +kernel)
set_option maxRecDepth 20000 in
theorem gJ0_charAt_5068e_J0_isLatin1_aae02 : GoodIn wsJ0_charAt_5068e (wsV RJ0 492 RJ0 yJ0_isLatin1_aae02 wsJ0_isLatin1_aae02) := goodIn_app (goodIn_of _ (by decide +kernel)) ggJ0_charAt_5068e_J0_isLatin1_aae02
set_option maxRecDepth 20000 in
theorem ggJ0_charAt_5068e_J1_charAt_3b067 : GoodIn wsJ0_charAt_5068e wsJ1_charAt_3b067 := goodIn_r _ [12, 13, 14, 5, 15, 16, 17, 18, 19, 20] (by decide +kernel) (by decide +kernel)
set_option maxRecDepth 20000 in
theorem gJ0_charAt_5068e_J1_charAt_3b067 : GoodIn wsJ0_charAt_5068e (va_wsS RJ0 495 yJ1_charAt_3b067 wsJ1_charAt_3b067) := goodIn_app (goodIn_of _ (by decide +kernel)) ggJ0_charAt_5068e_J1_charAt_3b067
set_option maxRecDepth 20000 in
theorem ggJ0_charAt_5068e_J2_charAt_3b067 : GoodIn wsJ0_charAt_5068e wsJ2_charAt_3b067 := goodIn_r _ [24, 25, 26, 23, 27, 28, 29, 30, 31, 14, 5, 15, 16, 17, 18, 19, 20, 32, 33, 34, 35, 36, 37] (by decide +kernel) (by decide +kernel)
set_option maxRecDepth 20000 in
theorem gJ0_charAt_5068e_J2_charAt_3b067 : GoodIn wsJ0_charAt_5068e (va_wsS RJ0 498 yJ2_charAt_3b067 wsJ2_charAt_3b067) := goodIn_app (goodIn_of _ (by decide +kernel)) ggJ0_charAt_5068e_J2_charAt_3b067
theorem dJ0_charAt_5068e_0 : decode cJ0_charAt_5068e 0 = .ok (.aload_n 0, 1) := by decide +kernel
theorem dJ0_charAt_5068e_1 : decode cJ0_charAt_5068e 1 = .ok (.invokevirtual 492, 3) := by decide +kernel
theorem dJ0_charAt_5068e_4 : decode cJ0_charAt_5068e 4 = .ok (.ifCond .eq 12, 3) := by decide +kernel
theorem dJ0_charAt_5068e_7 : decode cJ0_charAt_5068e 7 = .ok (.aload_n 0, 1) := by decide +kernel
theorem dJ0_charAt_5068e_8 : decode cJ0_charAt_5068e 8 = .ok (.getfield 9, 3) := by decide +kernel
theorem dJ0_charAt_5068e_11 : decode cJ0_charAt_5068e 11 = .ok (.iload_n 1, 1) := by decide +kernel
theorem dJ0_charAt_5068e_12 : decode cJ0_charAt_5068e 12 = .ok (.invokestatic 495, 3) := by decide +kernel
theorem dJ0_charAt_5068e_15 : decode cJ0_charAt_5068e 15 = .ok (.ireturn, 1) := by decide +kernel
theorem dJ0_charAt_5068e_16 : decode cJ0_charAt_5068e 16 = .ok (.aload_n 0, 1) := by decide +kernel
theorem dJ0_charAt_5068e_17 : decode cJ0_charAt_5068e 17 = .ok (.getfield 9, 3) := by decide +kernel
theorem dJ0_charAt_5068e_20 : decode cJ0_charAt_5068e 20 = .ok (.iload_n 1, 1) := by decide +kernel
theorem dJ0_charAt_5068e_21 : decode cJ0_charAt_5068e 21 = .ok (.invokestatic 498, 3) := by decide +kernel
theorem dJ0_charAt_5068e_24 : decode cJ0_charAt_5068e 24 = .ok (.ireturn, 1) := by decide +kernel
theorem dJ0_isLatin1_aae02_0 : decode cJ0_isLatin1_aae02 0 = .ok (.getstatic 38, 3) := by decide +kernel
theorem dJ0_isLatin1_aae02_3 : decode cJ0_isLatin1_aae02 3 = .ok (.ifCond .eq 14, 3) := by decide +kernel
theorem dJ0_isLatin1_aae02_6 : decode cJ0_isLatin1_aae02 6 = .ok (.aload_n 0, 1) := by decide +kernel
theorem dJ0_isLatin1_aae02_7 : decode cJ0_isLatin1_aae02 7 = .ok (.getfield 15, 3) := by decide +kernel
theorem dJ0_isLatin1_aae02_10 : decode cJ0_isLatin1_aae02 10 = .ok (.ifCond .ne 7, 3) := by decide +kernel
theorem dJ0_isLatin1_aae02_13 : decode cJ0_isLatin1_aae02 13 = .ok (.iconst 1, 1) := by decide +kernel
theorem dJ0_isLatin1_aae02_14 : decode cJ0_isLatin1_aae02 14 = .ok (.goto 4, 3) := by decide +kernel
theorem dJ0_isLatin1_aae02_17 : decode cJ0_isLatin1_aae02 17 = .ok (.iconst 0, 1) := by decide +kernel
theorem dJ0_isLatin1_aae02_18 : decode cJ0_isLatin1_aae02 18 = .ok (.ireturn, 1) := by decide +kernel
set_option maxRecDepth 20000 in
theorem ggJ0_checkIndex_df160_J3_checkIndex_8e157 : GoodIn wsJ0_checkIndex_df160 wsJ3_checkIndex_8e157 := goodIn_r _ [5] (by decide +kernel) (by decide +kernel)
set_option maxRecDepth 20000 in
theorem gJ0_checkIndex_df160_J3_checkIndex_8e157 : GoodIn wsJ0_checkIndex_df160 (va_wsS RJ0 1059 yJ3_checkIndex_8e157 wsJ3_checkIndex_8e157) := goodIn_app (goodIn_of _ (by decide +kernel)) ggJ0_checkIndex_df160_J3_checkIndex_8e157
theorem dJ0_checkIndex_df160_0 : decode cJ0_checkIndex_df160 0 = .ok (.iload_n 0, 1) := by decide +kernel
theorem dJ0_checkIndex_df160_1 : decode cJ0_checkIndex_df160 1 = .ok (.iload_n 1, 1) := by decide +kernel
theorem dJ0_checkIndex_df160_2 : decode cJ0_checkIndex_df160 2 = .ok (.getstatic 1053, 3) := by decide +kernel
theorem dJ0_checkIndex_df160_5 : decode cJ0_checkIndex_df160 5 = .ok (.invokestatic 1059, 3) := by decide +kernel
theorem dJ0_checkIndex_df160_8 : decode cJ0_checkIndex_df160 8 = .ok (.pop, 1) := by decide +kernel
theorem dJ0_checkIndex_df160_9 : decode cJ0_checkIndex_df160 9 = .ok (.return_, 1) := by decide +kernel
set_option maxRecDepth 20000 in
theorem ggJ1_charAt_3b067_J0_checkIndex_df160 : GoodIn wsJ1_charAt_3b067 wsJ0_checkIndex_df160 := goodIn_r _ [4, 5, 6, 7, 8, 9] (by decide +kernel) (by decide +kernel)
set_option maxRecDepth 20000 in
theorem gJ1_charAt_3b067_J0_checkIndex_df160 : GoodIn wsJ1_charAt_3b067 (va_wsS RJ1 9 yJ0_checkIndex_df160 wsJ0_checkIndex_df160) := goodIn_app (goodIn_of _ (by decide +kernel)) ggJ1_charAt_3b067_J0_checkIndex_df160
theorem dJ1_charAt_3b067_0 : decode cJ1_charAt_3b067 0 = .ok (.iload_n 1, 1) := by decide +kernel
theorem dJ1_charAt_3b067_1 : decode cJ1_charAt_3b067 1 = .ok (.aload_n 0, 1) := by decide +kernel
theorem dJ1_charAt_3b067_2 : decode cJ1_charAt_3b067 2 = .ok (.arraylength, 1) := by decide +kernel
theorem dJ1_charAt_3b067_3 : decode cJ1_charAt_3b067 3 = .ok (.invokestatic 9, 3) := by decide +kernel
theorem dJ1_charAt_3b067_6 : decode cJ1_charAt_3b067 6 = .ok (.aload_n 0, 1) := by decide +kernel
theorem dJ1_charAt_3b067_7 : decode cJ1_charAt_3b067 7 = .ok (.iload_n 1, 1) := by decide +kernel
theorem dJ1_charAt_3b067_8 : decode cJ1_charAt_3b067 8 = .ok (.baload, 1) := by decide +kernel
theorem dJ1_charAt_3b067_9 : decode cJ1_charAt_3b067 9 = .ok (.sipush 255, 3) := by decide +kernel
theorem dJ1_charAt_3b067_12 : decode cJ1_charAt_3b067 12 = .ok (.iand, 1) := by decide +kernel
theorem dJ1_charAt_3b067_13 : decode cJ1_charAt_3b067 13 = .ok (.i2c, 1) := by decide +kernel
theorem dJ1_charAt_3b067_14 : decode cJ1_charAt_3b067 14 = .ok (.ireturn, 1) := by decide +kernel
set_option maxRecDepth 20000 in
theorem ggJ2_getChar_3b067_J2_length_9d52b : GoodIn wsJ2_getChar_3b067 wsJ2_length_9d52b := goodIn_r _ [7] (by decide +kernel) (by decide +kernel)
set_option maxRecDepth 20000 in
theorem gJ2_getChar_3b067_J2_length_9d52b : GoodIn wsJ2_getChar_3b067 (va_wsS RJ2 48 yJ2_length_9d52b wsJ2_length_9d52b) := goodIn_app (goodIn_of _ (by decide +kernel)) ggJ2_getChar_3b067_J2_length_9d52b
theorem dJ2_getChar_3b067_0 : decode cJ2_getChar_3b067 0 = .ok (.getstatic 44, 3) := by decide +kernel
theorem dJ2_getChar_3b067_3 : decode cJ2_getChar_3b067 3 = .ok (.ifCond .ne 25, 3) := by decide +kernel
theorem dJ2_getChar_3b067_6 : decode cJ2_getChar_3b067 6 = .ok (.iload_n 1, 1) := by decide +kernel
theorem dJ2_getChar_3b067_7 : decode cJ2_getChar_3b067 7 = .ok (.ifCond .lt 11, 3) := by decide +kernel
theorem dJ2_getChar_3b067_10 : decode cJ2_getChar_3b067 10 = .ok (.iload_n 1, 1) := by decide +kernel
theorem dJ2_getChar_3b067_11 : decode cJ2_getChar_3b067 11 = .ok (.aload_n 0, 1) := by decide +kernel
theorem dJ2_getChar_3b067_12 : decode cJ2_getChar_3b067 12 = .ok (.invokestatic 48, 3) := by decide +kernel
theorem dJ2_getChar_3b067_15 : decode cJ2_getChar_3b067 15 = .ok (.if_icmp .lt 13, 3) := by decide +kernel
theorem dJ2_getChar_3b067_18 : decode cJ2_getChar_3b067 18 = .ok (.new 52, 3) := by decide +kernel
theorem dJ2_getChar_3b067_21 : decode cJ2_getChar_3b067 21 = .ok (.dup, 1) := by decide +kernel
theorem dJ2_getChar_3b067_22 : decode cJ2_getChar_3b067 22 = .ok (.ldc 54, 2) := by decide +kernel
theorem dJ2_getChar_3b067_24 : decode cJ2_getChar_3b067 24 = .ok (.invokespecial 56, 3) := by decide +kernel
theorem dJ2_getChar_3b067_27 : decode cJ2_getChar_3b067 27 = .ok (.athrow, 1) := by decide +kernel
theorem dJ2_getChar_3b067_28 : decode cJ2_getChar_3b067 28 = .ok (.iload_n 1, 1) := by decide +kernel
theorem dJ2_getChar_3b067_29 : decode cJ2_getChar_3b067 29 = .ok (.iconst 1, 1) := by decide +kernel
theorem dJ2_getChar_3b067_30 : decode cJ2_getChar_3b067 30 = .ok (.ishl, 1) := by decide +kernel
theorem dJ2_getChar_3b067_31 : decode cJ2_getChar_3b067 31 = .ok (.istore_n 1, 1) := by decide +kernel
theorem dJ2_getChar_3b067_32 : decode cJ2_getChar_3b067 32 = .ok (.aload_n 0, 1) := by decide +kernel
theorem dJ2_getChar_3b067_33 : decode cJ2_getChar_3b067 33 = .ok (.iload_n 1, 1) := by decide +kernel
theorem dJ2_getChar_3b067_34 : decode cJ2_getChar_3b067 34 = .ok (.iinc 1 1, 3) := by decide +kernel
theorem dJ2_getChar_3b067_37 : decode cJ2_getChar_3b067 37 = .ok (.baload, 1) := by decide +kernel
theorem dJ2_getChar_3b067_38 : decode cJ2_getChar_3b067 38 = .ok (.sipush 255, 3) := by decide +kernel
theorem dJ2_getChar_3b067_41 : decode cJ2_getChar_3b067 41 = .ok (.iand, 1) := by decide +kernel
theorem dJ2_getChar_3b067_42 : decode cJ2_getChar_3b067 42 = .ok (.getstatic 59, 3) := by decide +kernel
theorem dJ2_getChar_3b067_45 : decode cJ2_getChar_3b067 45 = .ok (.ishl, 1) := by decide +kernel
theorem dJ2_getChar_3b067_46 : decode cJ2_getChar_3b067 46 = .ok (.aload_n 0, 1) := by decide +kernel
theorem dJ2_getChar_3b067_47 : decode cJ2_getChar_3b067 47 = .ok (.iload_n 1, 1) := by decide +kernel
theorem dJ2_getChar_3b067_48 : decode cJ2_getChar_3b067 48 = .ok (.baload, 1) := by decide +kernel
theorem dJ2_getChar_3b067_49 : decode cJ2_getChar_3b067 49 = .ok (.sipush 255, 3) := by decide +kernel
theorem dJ2_getChar_3b067_52 : decode cJ2_getChar_3b067 52 = .ok (.iand, 1) := by decide +kernel
theorem dJ2_getChar_3b067_53 : decode cJ2_getChar_3b067 53 = .ok (.getstatic 63, 3) := by decide +kernel
theorem dJ2_getChar_3b067_56 : decode cJ2_getChar_3b067 56 = .ok (.ishl, 1) := by decide +kernel
theorem dJ2_getChar_3b067_57 : decode cJ2_getChar_3b067 57 = .ok (.ior, 1) := by decide +kernel
theorem dJ2_getChar_3b067_58 : decode cJ2_getChar_3b067 58 = .ok (.i2c, 1) := by decide +kernel
theorem dJ2_getChar_3b067_59 : decode cJ2_getChar_3b067 59 = .ok (.ireturn, 1) := by decide +kernel
theorem dJ2_length_9d52b_0 : decode cJ2_length_9d52b 0 = .ok (.aload_n 0, 1) := by decide +kernel
theorem dJ2_length_9d52b_1 : decode cJ2_length_9d52b 1 = .ok (.arraylength, 1) := by decide +kernel
theorem dJ2_length_9d52b_2 : decode cJ2_length_9d52b 2 = .ok (.iconst 1, 1) := by decide +kernel
theorem dJ2_length_9d52b_3 : decode cJ2_length_9d52b 3 = .ok (.ishr, 1) := by decide +kernel
theorem dJ2_length_9d52b_4 : decode cJ2_length_9d52b 4 = .ok (.ireturn, 1) := by decide +kernel
set_option maxRecDepth 20000 in
theorem ggJ2_charAt_3b067_J2_checkIndex_2214a : GoodIn wsJ2_charAt_3b067 wsJ2_checkIndex_2214a := goodIn_r _ [4, 5, 6, 3, 7, 8, 9, 10, 11, 12, 13, 14, 15, 16] (by decide +kernel) (by decide +kernel)
set_option maxRecDepth 20000 in
theorem gJ2_charAt_3b067_J2_checkIndex_2214a : GoodIn wsJ2_charAt_3b067 (va_wsS RJ2 67 yJ2_checkIndex_2214a wsJ2_checkIndex_2214a) := goodIn_app (goodIn_of _ (by decide +kernel)) ggJ2_charAt_3b067_J2_checkIndex_2214a
set_option maxRecDepth 20000 in
theorem ggJ2_charAt_3b067_J2_getChar_3b067 : GoodIn wsJ2_charAt_3b067 wsJ2_getChar_3b067 := goodIn_r _ [19, 20, 21, 22, 5, 6, 3, 7] (by decide +kernel) (by decide +kernel)
set_option maxRecDepth 20000 in
theorem gJ2_charAt_3b067_J2_getChar_3b067 : GoodIn wsJ2_charAt_3b067 (va_wsS RJ2 71 yJ2_getChar_3b067 wsJ2_getChar_3b067) := goodIn_app (goodIn_of _ (by decide +kernel)) ggJ2_charAt_3b067_J2_getChar_3b067
theorem dJ2_charAt_3b067_0 : decode cJ2_charAt_3b067 0 = .ok (.iload_n 1, 1) := by decide +kernel
theorem dJ2_charAt_3b067_1 : decode cJ2_charAt_3b067 1 = .ok (.aload_n 0, 1) := by decide +kernel
theorem dJ2_charAt_3b067_2 : decode cJ2_charAt_3b067 2 = .ok (.invokestatic 67, 3) := by decide +kernel
theorem dJ2_charAt_3b067_5 : decode cJ2_charAt_3b067 5 = .ok (.aload_n 0, 1) := by decide +kernel
theorem dJ2_charAt_3b067_6 : decode cJ2_charAt_3b067 6 = .ok (.iload_n 1, 1) := by decide +kernel
theorem dJ2_charAt_3b067_7 : decode cJ2_charAt_3b067 7 = .ok (.invokestatic 71, 3) := by decide +kernel
theorem dJ2_charAt_3b067_10 : decode cJ2_charAt_3b067 10 = .ok (.ireturn, 1) := by decide +kernel
set_option maxRecDepth 20000 in
theorem ggJ2_checkIndex_2214a_J2_length_9d52b : GoodIn wsJ2_checkIndex_2214a wsJ2_length_9d52b := goodIn_r _ [4] (by decide +kernel) (by decide +kernel)
set_option maxRecDepth 20000 in
theorem gJ2_checkIndex_2214a_J2_length_9d52b : GoodIn wsJ2_checkIndex_2214a (va_wsS RJ2 48 yJ2_length_9d52b wsJ2_length_9d52b) := goodIn_app (goodIn_of _ (by decide +kernel)) ggJ2_checkIndex_2214a_J2_length_9d52b
set_option maxRecDepth 20000 in
theorem ggJ2_checkIndex_2214a_J0_checkIndex_df160 : GoodIn wsJ2_checkIndex_2214a wsJ0_checkIndex_df160 := goodIn_r _ [8, 9, 10, 11, 12, 13] (by decide +kernel) (by decide +kernel)
set_option maxRecDepth 20000 in
theorem gJ2_checkIndex_2214a_J0_checkIndex_df160 : GoodIn wsJ2_checkIndex_2214a (va_wsS RJ2 414 yJ0_checkIndex_df160 wsJ0_checkIndex_df160) := goodIn_app (goodIn_of _ (by decide +kernel)) ggJ2_checkIndex_2214a_J0_checkIndex_df160
theorem dJ2_checkIndex_2214a_0 : decode cJ2_checkIndex_2214a 0 = .ok (.iload_n 0, 1) := by decide +kernel
theorem dJ2_checkIndex_2214a_1 : decode cJ2_checkIndex_2214a 1 = .ok (.aload_n 1, 1) := by decide +kernel
theorem dJ2_checkIndex_2214a_2 : decode cJ2_checkIndex_2214a 2 = .ok (.invokestatic 48, 3) := by decide +kernel
theorem dJ2_checkIndex_2214a_5 : decode cJ2_checkIndex_2214a 5 = .ok (.invokestatic 414, 3) := by decide +kernel
theorem dJ2_checkIndex_2214a_8 : decode cJ2_checkIndex_2214a 8 = .ok (.return_, 1) := by decide +kernel
theorem dJ3_checkIndex_8e157_0 : decode cJ3_checkIndex_8e157 0 = .ok (.iload_n 0, 1) := by decide +kernel
theorem dJ3_checkIndex_8e157_1 : decode cJ3_checkIndex_8e157 1 = .ok (.ifCond .lt 8, 3) := by decide +kernel
theorem dJ3_checkIndex_8e157_4 : decode cJ3_checkIndex_8e157 4 = .ok (.iload_n 0, 1) := by decide +kernel
theorem dJ3_checkIndex_8e157_5 : decode cJ3_checkIndex_8e157 5 = .ok (.iload_n 1, 1) := by decide +kernel
theorem dJ3_checkIndex_8e157_6 : decode cJ3_checkIndex_8e157 6 = .ok (.if_icmp .lt 10, 3) := by decide +kernel
theorem dJ3_checkIndex_8e157_9 : decode cJ3_checkIndex_8e157 9 = .ok (.aload_n 2, 1) := by decide +kernel
theorem dJ3_checkIndex_8e157_10 : decode cJ3_checkIndex_8e157 10 = .ok (.iload_n 0, 1) := by decide +kernel
theorem dJ3_checkIndex_8e157_11 : decode cJ3_checkIndex_8e157 11 = .ok (.iload_n 1, 1) := by decide +kernel
theorem dJ3_checkIndex_8e157_12 : decode cJ3_checkIndex_8e157 12 = .ok (.invokestatic 95, 3) := by decide +kernel
theorem dJ3_checkIndex_8e157_15 : decode cJ3_checkIndex_8e157 15 = .ok (.athrow, 1) := by decide +kernel
theorem dJ3_checkIndex_8e157_16 : decode cJ3_checkIndex_8e157 16 = .ok (.iload_n 0, 1) := by decide +kernel
theorem dJ3_checkIndex_8e157_17 : decode cJ3_checkIndex_8e157 17 = .ok (.ireturn, 1) := by decide +kernel
theorem dL_below_0 : decode cL_below 0 = .ok (.iload_n 0, 1) := by decide +kernel
theorem dL_below_1 : decode cL_below 1 = .ok (.ldc 7, 2) := by decide +kernel
theorem dL_below_3 : decode cL_below 3 = .ok (.iand, 1) := by decide +kernel
theorem dL_below_4 : decode cL_below 4 = .ok (.iload_n 1, 1) := by decide +kernel
theorem dL_below_5 : decode cL_below 5 = .ok (.irem, 1) := by decide +kernel
theorem dL_below_6 : decode cL_below 6 = .ok (.ireturn, 1) := by decide +kernel
theorem dL_cell_0 : decode cL_cell 0 = .ok (.iload_n 1, 1) := by decide +kernel
theorem dL_cell_1 : decode cL_cell 1 = .ok (.aload_n 0, 1) := by decide +kernel
theorem dL_cell_2 : decode cL_cell 2 = .ok (.arraylength, 1) := by decide +kernel
theorem dL_cell_3 : decode cL_cell 3 = .ok (.if_icmp .ge 9, 3) := by decide +kernel
theorem dL_cell_6 : decode cL_cell 6 = .ok (.aload_n 0, 1) := by decide +kernel
theorem dL_cell_7 : decode cL_cell 7 = .ok (.iload_n 1, 1) := by decide +kernel
theorem dL_cell_8 : decode cL_cell 8 = .ok (.iaload, 1) := by decide +kernel
theorem dL_cell_9 : decode cL_cell 9 = .ok (.goto 9, 3) := by decide +kernel
theorem dL_cell_12 : decode cL_cell 12 = .ok (.ldc 8, 2) := by decide +kernel
theorem dL_cell_14 : decode cL_cell 14 = .ok (.iload_n 1, 1) := by decide +kernel
theorem dL_cell_15 : decode cL_cell 15 = .ok (.iconst 3, 1) := by decide +kernel
theorem dL_cell_16 : decode cL_cell 16 = .ok (.iadd, 1) := by decide +kernel
theorem dL_cell_17 : decode cL_cell 17 = .ok (.imul, 1) := by decide +kernel
theorem dL_cell_18 : decode cL_cell 18 = .ok (.ireturn, 1) := by decide +kernel
set_option maxRecDepth 20000 in
theorem ggL_widens_J0_charAt_5068e : GoodIn wsL_widens wsJ0_charAt_5068e := goodIn_r _ [5, 6, 7, 8, 9, 4, 10, 11, 12, 13, 14, 15, 16, 17, 18, 19, 20, 21, 22, 23, 24, 25, 26, 27, 28, 29, 30, 31, 32, 33, 34, 35, 36, 37, 38, 39, 40, 41] (by decide +kernel) (by decide +kernel)
