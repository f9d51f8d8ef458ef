set_option maxRecDepth 20000 in
theorem ggX0_init_X2_holdsCells : GoodIn wsX0_init wsX2_holdsCells := goodIn_r _ [12] (by decide +kernel) (by decide +kernel)
set_option maxRecDepth 20000 in
theorem gX0_init_X2_holdsCells_n9 : GoodIn wsX0_init (wsX2_holdsCells) := ggX0_init_X2_holdsCells
set_option maxRecDepth 20000 in
theorem ggX0_init_X2_isLength : GoodIn wsX0_init wsX2_isLength := goodIn_r _ [14] (by decide +kernel) (by decide +kernel)
set_option maxRecDepth 20000 in
theorem gX0_init_X2_isLength_n13 : GoodIn wsX0_init (wsX2_isLength) := ggX0_init_X2_isLength
set_option maxRecDepth 20000 in
theorem ggX0_init_X2_isFloating : GoodIn wsX0_init wsX2_isFloating := goodIn_r _ [16] (by decide +kernel) (by decide +kernel)
set_option maxRecDepth 20000 in
theorem gX0_init_X2_isFloating_n25 : GoodIn wsX0_init (wsX2_isFloating) := ggX0_init_X2_isFloating
theorem dX0_init_0 : decode cX0_init 0 = .ok (.aload_n 0, 1) := by decide +kernel
theorem dX0_init_1 : decode cX0_init 1 = .ok (.invokespecial 3, 3) := by decide +kernel
theorem dX0_init_4 : decode cX0_init 4 = .ok (.iload_n 1, 1) := by decide +kernel
theorem dX0_init_5 : decode cX0_init 5 = .ok (.invokestatic 9, 3) := by decide +kernel
theorem dX0_init_8 : decode cX0_init 8 = .ok (.ifCond .eq 14, 3) := by decide +kernel
theorem dX0_init_11 : decode cX0_init 11 = .ok (.iload_n 2, 1) := by decide +kernel
theorem dX0_init_12 : decode cX0_init 12 = .ok (.invokestatic 13, 3) := by decide +kernel
theorem dX0_init_15 : decode cX0_init 15 = .ok (.ifCond .eq 7, 3) := by decide +kernel
theorem dX0_init_18 : decode cX0_init 18 = .ok (.iload_n 2, 1) := by decide +kernel
theorem dX0_init_19 : decode cX0_init 19 = .ok (.goto 4, 3) := by decide +kernel
theorem dX0_init_22 : decode cX0_init 22 = .ok (.iconst 0, 1) := by decide +kernel
theorem dX0_init_23 : decode cX0_init 23 = .ok (.istore_n 3, 1) := by decide +kernel
theorem dX0_init_24 : decode cX0_init 24 = .ok (.aload_n 0, 1) := by decide +kernel
theorem dX0_init_25 : decode cX0_init 25 = .ok (.iload_n 1, 1) := by decide +kernel
theorem dX0_init_26 : decode cX0_init 26 = .ok (.putfield 16, 3) := by decide +kernel
theorem dX0_init_29 : decode cX0_init 29 = .ok (.aload_n 0, 1) := by decide +kernel
theorem dX0_init_30 : decode cX0_init 30 = .ok (.iload_n 1, 1) := by decide +kernel
theorem dX0_init_31 : decode cX0_init 31 = .ok (.invokestatic 9, 3) := by decide +kernel
theorem dX0_init_34 : decode cX0_init 34 = .ok (.ifCond .eq 7, 3) := by decide +kernel
theorem dX0_init_37 : decode cX0_init 37 = .ok (.iload_n 3, 1) := by decide +kernel
theorem dX0_init_38 : decode cX0_init 38 = .ok (.goto 4, 3) := by decide +kernel
theorem dX0_init_41 : decode cX0_init 41 = .ok (.iconst (-1), 1) := by decide +kernel
theorem dX0_init_42 : decode cX0_init 42 = .ok (.putfield 22, 3) := by decide +kernel
theorem dX0_init_45 : decode cX0_init 45 = .ok (.aload_n 0, 1) := by decide +kernel
theorem dX0_init_46 : decode cX0_init 46 = .ok (.iload_n 1, 1) := by decide +kernel
theorem dX0_init_47 : decode cX0_init 47 = .ok (.invokestatic 25, 3) := by decide +kernel
theorem dX0_init_50 : decode cX0_init 50 = .ok (.ifCond .eq 7, 3) := by decide +kernel
theorem dX0_init_53 : decode cX0_init 53 = .ok (.iconst 0, 1) := by decide +kernel
theorem dX0_init_54 : decode cX0_init 54 = .ok (.goto 4, 3) := by decide +kernel
theorem dX0_init_57 : decode cX0_init 57 = .ok (.iload_n 3, 1) := by decide +kernel
theorem dX0_init_58 : decode cX0_init 58 = .ok (.newarray .long, 2) := by decide +kernel
theorem dX0_init_60 : decode cX0_init 60 = .ok (.putfield 28, 3) := by decide +kernel
theorem dX0_init_63 : decode cX0_init 63 = .ok (.aload_n 0, 1) := by decide +kernel
theorem dX0_init_64 : decode cX0_init 64 = .ok (.iload_n 1, 1) := by decide +kernel
theorem dX0_init_65 : decode cX0_init 65 = .ok (.invokestatic 25, 3) := by decide +kernel
theorem dX0_init_68 : decode cX0_init 68 = .ok (.ifCond .eq 7, 3) := by decide +kernel
theorem dX0_init_71 : decode cX0_init 71 = .ok (.iload_n 3, 1) := by decide +kernel
theorem dX0_init_72 : decode cX0_init 72 = .ok (.goto 4, 3) := by decide +kernel
theorem dX0_init_75 : decode cX0_init 75 = .ok (.iconst 0, 1) := by decide +kernel
theorem dX0_init_76 : decode cX0_init 76 = .ok (.newarray .double, 2) := by decide +kernel
theorem dX0_init_78 : decode cX0_init 78 = .ok (.putfield 32, 3) := by decide +kernel
theorem dX0_init_81 : decode cX0_init 81 = .ok (.return_, 1) := by decide +kernel
theorem dX0_wholeAt_0 : decode cX0_wholeAt 0 = .ok (.iload_n 1, 1) := by decide +kernel
theorem dX0_wholeAt_1 : decode cX0_wholeAt 1 = .ok (.ifCond .lt 21, 3) := by decide +kernel
theorem dX0_wholeAt_4 : decode cX0_wholeAt 4 = .ok (.iload_n 1, 1) := by decide +kernel
theorem dX0_wholeAt_5 : decode cX0_wholeAt 5 = .ok (.aload_n 0, 1) := by decide +kernel
theorem dX0_wholeAt_6 : decode cX0_wholeAt 6 = .ok (.getfield 28, 3) := by decide +kernel
theorem dX0_wholeAt_9 : decode cX0_wholeAt 9 = .ok (.arraylength, 1) := by decide +kernel
theorem dX0_wholeAt_10 : decode cX0_wholeAt 10 = .ok (.if_icmp .ge 12, 3) := by decide +kernel
theorem dX0_wholeAt_13 : decode cX0_wholeAt 13 = .ok (.aload_n 0, 1) := by decide +kernel
theorem dX0_wholeAt_14 : decode cX0_wholeAt 14 = .ok (.getfield 28, 3) := by decide +kernel
theorem dX0_wholeAt_17 : decode cX0_wholeAt 17 = .ok (.iload_n 1, 1) := by decide +kernel
theorem dX0_wholeAt_18 : decode cX0_wholeAt 18 = .ok (.laload, 1) := by decide +kernel
theorem dX0_wholeAt_19 : decode cX0_wholeAt 19 = .ok (.goto 4, 3) := by decide +kernel
theorem dX0_wholeAt_22 : decode cX0_wholeAt 22 = .ok (.lconst 0, 1) := by decide +kernel
theorem dX0_wholeAt_23 : decode cX0_wholeAt 23 = .ok (.lreturn, 1) := by decide +kernel
theorem dX0_realAt_0 : decode cX0_realAt 0 = .ok (.iload_n 1, 1) := by decide +kernel
theorem dX0_realAt_1 : decode cX0_realAt 1 = .ok (.ifCond .lt 21, 3) := by decide +kernel
theorem dX0_realAt_4 : decode cX0_realAt 4 = .ok (.iload_n 1, 1) := by decide +kernel
theorem dX0_realAt_5 : decode cX0_realAt 5 = .ok (.aload_n 0, 1) := by decide +kernel
theorem dX0_realAt_6 : decode cX0_realAt 6 = .ok (.getfield 32, 3) := by decide +kernel
theorem dX0_realAt_9 : decode cX0_realAt 9 = .ok (.arraylength, 1) := by decide +kernel
theorem dX0_realAt_10 : decode cX0_realAt 10 = .ok (.if_icmp .ge 12, 3) := by decide +kernel
theorem dX0_realAt_13 : decode cX0_realAt 13 = .ok (.aload_n 0, 1) := by decide +kernel
theorem dX0_realAt_14 : decode cX0_realAt 14 = .ok (.getfield 32, 3) := by decide +kernel
theorem dX0_realAt_17 : decode cX0_realAt 17 = .ok (.iload_n 1, 1) := by decide +kernel
theorem dX0_realAt_18 : decode cX0_realAt 18 = .ok (.daload, 1) := by decide +kernel
theorem dX0_realAt_19 : decode cX0_realAt 19 = .ok (.goto 4, 3) := by decide +kernel
theorem dX0_realAt_22 : decode cX0_realAt 22 = .ok (.dconst 0, 1) := by decide +kernel
theorem dX0_realAt_23 : decode cX0_realAt 23 = .ok (.dreturn, 1) := by decide +kernel
set_option maxRecDepth 20000 in
theorem ggX0_doubleAt_X2_isFloating : GoodIn wsX0_doubleAt wsX2_isFloating := goodIn_r _ [4] (by decide +kernel) (by decide +kernel)
set_option maxRecDepth 20000 in
theorem gX0_doubleAt_X2_isFloating_n25 : GoodIn wsX0_doubleAt (wsX2_isFloating) := ggX0_doubleAt_X2_isFloating
set_option maxRecDepth 20000 in
theorem ggX0_doubleAt_X0_realAt : GoodIn wsX0_doubleAt wsX0_realAt := goodIn_r _ [9, 10, 16, 17, 18, 19] (by decide +kernel) (by decide +kernel)
set_option maxRecDepth 20000 in
theorem gX0_doubleAt_X0_realAt : GoodIn wsX0_doubleAt (wsV RX0 36 RX0 yX0_realAt wsX0_realAt) := goodIn_app (goodIn_of _ (by decide +kernel)) ggX0_doubleAt_X0_realAt
set_option maxRecDepth 20000 in
theorem ggX0_doubleAt_X0_wholeAt : GoodIn wsX0_doubleAt wsX0_wholeAt := goodIn_r _ [14, 15, 16, 17, 18, 19] (by decide +kernel) (by decide +kernel)
set_option maxRecDepth 20000 in
theorem gX0_doubleAt_X0_wholeAt : GoodIn wsX0_doubleAt (wsV RX0 40 RX0 yX0_wholeAt wsX0_wholeAt) := goodIn_app (goodIn_of _ (by decide +kernel)) ggX0_doubleAt_X0_wholeAt
theorem dX0_doubleAt_0 : decode cX0_doubleAt 0 = .ok (.aload_n 0, 1) := by decide +kernel
theorem dX0_doubleAt_1 : decode cX0_doubleAt 1 = .ok (.getfield 16, 3) := by decide +kernel
theorem dX0_doubleAt_4 : decode cX0_doubleAt 4 = .ok (.invokestatic 25, 3) := by decide +kernel
theorem dX0_doubleAt_7 : decode cX0_doubleAt 7 = .ok (.ifCond .eq 11, 3) := by decide +kernel
theorem dX0_doubleAt_10 : decode cX0_doubleAt 10 = .ok (.aload_n 0, 1) := by decide +kernel
theorem dX0_doubleAt_11 : decode cX0_doubleAt 11 = .ok (.iload_n 1, 1) := by decide +kernel
theorem dX0_doubleAt_12 : decode cX0_doubleAt 12 = .ok (.invokevirtual 36, 3) := by decide +kernel
theorem dX0_doubleAt_15 : decode cX0_doubleAt 15 = .ok (.goto 9, 3) := by decide +kernel
theorem dX0_doubleAt_18 : decode cX0_doubleAt 18 = .ok (.aload_n 0, 1) := by decide +kernel
theorem dX0_doubleAt_19 : decode cX0_doubleAt 19 = .ok (.iload_n 1, 1) := by decide +kernel
theorem dX0_doubleAt_20 : decode cX0_doubleAt 20 = .ok (.invokevirtual 40, 3) := by decide +kernel
theorem dX0_doubleAt_23 : decode cX0_doubleAt 23 = .ok (.l2d, 1) := by decide +kernel
theorem dX0_doubleAt_24 : decode cX0_doubleAt 24 = .ok (.dreturn, 1) := by decide +kernel
set_option maxRecDepth 20000 in
theorem ggX0_putWhole_X0_putReal : GoodIn wsX0_putWhole wsX0_putReal := goodIn_r _ [7, 8, 9, 10, 11, 12] (by decide +kernel) (by decide +kernel)
set_option maxRecDepth 20000 in
theorem gX0_putWhole_X0_putReal : GoodIn wsX0_putWhole (wsV RX0 48 RX0 yX0_putReal wsX0_putReal) := goodIn_app (goodIn_of _ (by decide +kernel)) ggX0_putWhole_X0_putReal
theorem dX0_putWhole_0 : decode cX0_putWhole 0 = .ok (.aload_n 0, 1) := by decide +kernel
theorem dX0_putWhole_1 : decode cX0_putWhole 1 = .ok (.getfield 16, 3) := by decide +kernel
theorem dX0_putWhole_4 : decode cX0_putWhole 4 = .ok (.bipush 7, 2) := by decide +kernel
theorem dX0_putWhole_6 : decode cX0_putWhole 6 = .ok (.if_icmp .ne 14, 3) := by decide +kernel
theorem dX0_putWhole_9 : decode cX0_putWhole 9 = .ok (.aload_n 0, 1) := by decide +kernel
theorem dX0_putWhole_10 : decode cX0_putWhole 10 = .ok (.iload_n 1, 1) := by decide +kernel
theorem dX0_putWhole_11 : decode cX0_putWhole 11 = .ok (.lload_n 2, 1) := by decide +kernel
theorem dX0_putWhole_12 : decode cX0_putWhole 12 = .ok (.l2f, 1) := by decide +kernel
theorem dX0_putWhole_13 : decode cX0_putWhole 13 = .ok (.f2d, 1) := by decide +kernel
theorem dX0_putWhole_14 : decode cX0_putWhole 14 = .ok (.invokevirtual 48, 3) := by decide +kernel
theorem dX0_putWhole_17 : decode cX0_putWhole 17 = .ok (.goto 42, 3) := by decide +kernel
theorem dX0_putWhole_20 : decode cX0_putWhole 20 = .ok (.aload_n 0, 1) := by decide +kernel
theorem dX0_putWhole_21 : decode cX0_putWhole 21 = .ok (.getfield 16, 3) := by decide +kernel
theorem dX0_putWhole_24 : decode cX0_putWhole 24 = .ok (.bipush 8, 2) := by decide +kernel
theorem dX0_putWhole_26 : decode cX0_putWhole 26 = .ok (.if_icmp .ne 13, 3) := by decide +kernel
theorem dX0_putWhole_29 : decode cX0_putWhole 29 = .ok (.aload_n 0, 1) := by decide +kernel
theorem dX0_putWhole_30 : decode cX0_putWhole 30 = .ok (.iload_n 1, 1) := by decide +kernel
theorem dX0_putWhole_31 : decode cX0_putWhole 31 = .ok (.lload_n 2, 1) := by decide +kernel
theorem dX0_putWhole_32 : decode cX0_putWhole 32 = .ok (.l2d, 1) := by decide +kernel
theorem dX0_putWhole_33 : decode cX0_putWhole 33 = .ok (.invokevirtual 48, 3) := by decide +kernel
theorem dX0_putWhole_36 : decode cX0_putWhole 36 = .ok (.goto 23, 3) := by decide +kernel
theorem dX0_putWhole_39 : decode cX0_putWhole 39 = .ok (.iload_n 1, 1) := by decide +kernel
theorem dX0_putWhole_40 : decode cX0_putWhole 40 = .ok (.ifCond .lt 19, 3) := by decide +kernel
theorem dX0_putWhole_43 : decode cX0_putWhole 43 = .ok (.iload_n 1, 1) := by decide +kernel
theorem dX0_putWhole_44 : decode cX0_putWhole 44 = .ok (.aload_n 0, 1) := by decide +kernel
theorem dX0_putWhole_45 : decode cX0_putWhole 45 = .ok (.getfield 28, 3) := by decide +kernel
theorem dX0_putWhole_48 : decode cX0_putWhole 48 = .ok (.arraylength, 1) := by decide +kernel
theorem dX0_putWhole_49 : decode cX0_putWhole 49 = .ok (.if_icmp .ge 10, 3) := by decide +kernel
theorem dX0_putWhole_52 : decode cX0_putWhole 52 = .ok (.aload_n 0, 1) := by decide +kernel
theorem dX0_putWhole_53 : decode cX0_putWhole 53 = .ok (.getfield 28, 3) := by decide +kernel
theorem dX0_putWhole_56 : decode cX0_putWhole 56 = .ok (.iload_n 1, 1) := by decide +kernel
theorem dX0_putWhole_57 : decode cX0_putWhole 57 = .ok (.lload_n 2, 1) := by decide +kernel
theorem dX0_putWhole_58 : decode cX0_putWhole 58 = .ok (.lastore, 1) := by decide +kernel
theorem dX0_putWhole_59 : decode cX0_putWhole 59 = .ok (.return_, 1) := by decide +kernel
theorem dX0_putReal_0 : decode cX0_putReal 0 = .ok (.iload_n 1, 1) := by decide +kernel
theorem dX0_putReal_1 : decode cX0_putReal 1 = .ok (.ifCond .lt 19, 3) := by decide +kernel
theorem dX0_putReal_4 : decode cX0_putReal 4 = .ok (.iload_n 1, 1) := by decide +kernel
theorem dX0_putReal_5 : decode cX0_putReal 5 = .ok (.aload_n 0, 1) := by decide +kernel
theorem dX0_putReal_6 : decode cX0_putReal 6 = .ok (.getfield 32, 3) := by decide +kernel
theorem dX0_putReal_9 : decode cX0_putReal 9 = .ok (.arraylength, 1) := by decide +kernel
theorem dX0_putReal_10 : decode cX0_putReal 10 = .ok (.if_icmp .ge 10, 3) := by decide +kernel
theorem dX0_putReal_13 : decode cX0_putReal 13 = .ok (.aload_n 0, 1) := by decide +kernel
theorem dX0_putReal_14 : decode cX0_putReal 14 = .ok (.getfield 32, 3) := by decide +kernel
theorem dX0_putReal_17 : decode cX0_putReal 17 = .ok (.iload_n 1, 1) := by decide +kernel
theorem dX0_putReal_18 : decode cX0_putReal 18 = .ok (.dload_n 2, 1) := by decide +kernel
theorem dX0_putReal_19 : decode cX0_putReal 19 = .ok (.dastore, 1) := by decide +kernel
theorem dX0_putReal_20 : decode cX0_putReal 20 = .ok (.return_, 1) := by decide +kernel
set_option maxRecDepth 20000 in
theorem ggX0_takeCells_X2_isPart : GoodIn wsX0_takeCells wsX2_isPart := goodIn_r _ [9] (by decide +kernel) (by decide +kernel)
set_option maxRecDepth 20000 in
theorem gX0_takeCells_X2_isPart_n52 : GoodIn wsX0_takeCells (wsX2_isPart) := ggX0_takeCells_X2_isPart
theorem dX0_takeCells_0 : decode cX0_takeCells 0 = .ok (.iload_n 2, 1) := by decide +kernel
theorem dX0_takeCells_1 : decode cX0_takeCells 1 = .ok (.iload 4, 2) := by decide +kernel
theorem dX0_takeCells_3 : decode cX0_takeCells 3 = .ok (.aload_n 1, 1) := by decide +kernel
theorem dX0_takeCells_4 : decode cX0_takeCells 4 = .ok (.getfield 28, 3) := by decide +kernel
theorem dX0_takeCells_7 : decode cX0_takeCells 7 = .ok (.arraylength, 1) := by decide +kernel
theorem dX0_takeCells_8 : decode cX0_takeCells 8 = .ok (.invokestatic 52, 3) := by decide +kernel
theorem dX0_takeCells_11 : decode cX0_takeCells 11 = .ok (.ifCond .eq 32, 3) := by decide +kernel
theorem dX0_takeCells_14 : decode cX0_takeCells 14 = .ok (.iload_n 3, 1) := by decide +kernel
theorem dX0_takeCells_15 : decode cX0_takeCells 15 = .ok (.iload 4, 2) := by decide +kernel
theorem dX0_takeCells_17 : decode cX0_takeCells 17 = .ok (.aload_n 0, 1) := by decide +kernel
theorem dX0_takeCells_18 : decode cX0_takeCells 18 = .ok (.getfield 28, 3) := by decide +kernel
theorem dX0_takeCells_21 : decode cX0_takeCells 21 = .ok (.arraylength, 1) := by decide +kernel
theorem dX0_takeCells_22 : decode cX0_takeCells 22 = .ok (.invokestatic 52, 3) := by decide +kernel
theorem dX0_takeCells_25 : decode cX0_takeCells 25 = .ok (.ifCond .eq 18, 3) := by decide +kernel
theorem dX0_takeCells_28 : decode cX0_takeCells 28 = .ok (.aload_n 1, 1) := by decide +kernel
theorem dX0_takeCells_29 : decode cX0_takeCells 29 = .ok (.getfield 28, 3) := by decide +kernel
theorem dX0_takeCells_32 : decode cX0_takeCells 32 = .ok (.iload_n 2, 1) := by decide +kernel
theorem dX0_takeCells_33 : decode cX0_takeCells 33 = .ok (.aload_n 0, 1) := by decide +kernel
theorem dX0_takeCells_34 : decode cX0_takeCells 34 = .ok (.getfield 28, 3) := by decide +kernel
theorem dX0_takeCells_37 : decode cX0_takeCells 37 = .ok (.iload_n 3, 1) := by decide +kernel
theorem dX0_takeCells_38 : decode cX0_takeCells 38 = .ok (.iload 4, 2) := by decide +kernel
theorem dX0_takeCells_40 : decode cX0_takeCells 40 = .ok (.invokestatic 56, 3) := by decide +kernel
theorem dX0_takeCells_43 : decode cX0_takeCells 43 = .ok (.iload_n 2, 1) := by decide +kernel
theorem dX0_takeCells_44 : decode cX0_takeCells 44 = .ok (.iload 4, 2) := by decide +kernel
theorem dX0_takeCells_46 : decode cX0_takeCells 46 = .ok (.aload_n 1, 1) := by decide +kernel
theorem dX0_takeCells_47 : decode cX0_takeCells 47 = .ok (.getfield 32, 3) := by decide +kernel
theorem dX0_takeCells_50 : decode cX0_takeCells 50 = .ok (.arraylength, 1) := by decide +kernel
theorem dX0_takeCells_51 : decode cX0_takeCells 51 = .ok (.invokestatic 52, 3) := by decide +kernel
theorem dX0_takeCells_54 : decode cX0_takeCells 54 = .ok (.ifCond .eq 32, 3) := by decide +kernel
theorem dX0_takeCells_57 : decode cX0_takeCells 57 = .ok (.iload_n 3, 1) := by decide +kernel
theorem dX0_takeCells_58 : decode cX0_takeCells 58 = .ok (.iload 4, 2) := by decide +kernel
theorem dX0_takeCells_60 : decode cX0_takeCells 60 = .ok (.aload_n 0, 1) := by decide +kernel
theorem dX0_takeCells_61 : decode cX0_takeCells 61 = .ok (.getfield 32, 3) := by decide +kernel
theorem dX0_takeCells_64 : decode cX0_takeCells 64 = .ok (.arraylength, 1) := by decide +kernel
theorem dX0_takeCells_65 : decode cX0_takeCells 65 = .ok (.invokestatic 52, 3) := by decide +kernel
theorem dX0_takeCells_68 : decode cX0_takeCells 68 = .ok (.ifCond .eq 18, 3) := by decide +kernel
theorem dX0_takeCells_71 : decode cX0_takeCells 71 = .ok (.aload_n 1, 1) := by decide +kernel
theorem dX0_takeCells_72 : decode cX0_takeCells 72 = .ok (.getfield 32, 3) := by decide +kernel
theorem dX0_takeCells_75 : decode cX0_takeCells 75 = .ok (.iload_n 2, 1) := by decide +kernel
theorem dX0_takeCells_76 : decode cX0_takeCells 76 = .ok (.aload_n 0, 1) := by decide +kernel
theorem dX0_takeCells_77 : decode cX0_takeCells 77 = .ok (.getfield 32, 3) := by decide +kernel
theorem dX0_takeCells_80 : decode cX0_takeCells 80 = .ok (.iload_n 3, 1) := by decide +kernel
theorem dX0_takeCells_81 : decode cX0_takeCells 81 = .ok (.iload 4, 2) := by decide +kernel
theorem dX0_takeCells_83 : decode cX0_takeCells 83 = .ok (.invokestatic 56, 3) := by decide +kernel
theorem dX0_takeCells_86 : decode cX0_takeCells 86 = .ok (.return_, 1) := by decide +kernel
set_option maxRecDepth 20000 in
theorem ggX0_takeWidened_X2_isFloating : GoodIn wsX0_takeWidened wsX2_isFloating := goodIn_r _ [5] (by decide +kernel) (by decide +kernel)
set_option maxRecDepth 20000 in
theorem gX0_takeWidened_X2_isFloating_n25 : GoodIn wsX0_takeWidened (wsX2_isFloating) := ggX0_takeWidened_X2_isFloating
set_option maxRecDepth 20000 in
theorem ggX0_takeWidened_X0_realAt : GoodIn wsX0_takeWidened wsX0_realAt := goodIn_r _ [10, 11, 25, 26, 27, 28] (by decide +kernel) (by decide +kernel)
set_option maxRecDepth 20000 in
theorem gX0_takeWidened_X0_realAt : GoodIn wsX0_takeWidened (wsV RX0 36 RX0 yX0_realAt wsX0_realAt) := goodIn_app (goodIn_of _ (by decide +kernel)) ggX0_takeWidened_X0_realAt
set_option maxRecDepth 20000 in
theorem ggX0_takeWidened_X0_putReal : GoodIn wsX0_takeWidened wsX0_putReal := goodIn_r _ [15, 11, 25, 26, 27, 28] (by decide +kernel) (by decide +kernel)
set_option maxRecDepth 20000 in
theorem gX0_takeWidened_X0_putReal : GoodIn wsX0_takeWidened (wsV RX0 48 RX0 yX0_putReal wsX0_putReal) := goodIn_app (goodIn_of _ (by decide +kernel)) ggX0_takeWidened_X0_putReal
set_option maxRecDepth 20000 in
theorem ggX0_takeWidened_X0_wholeAt : GoodIn wsX0_takeWidened wsX0_wholeAt := goodIn_r _ [19, 20, 25, 26, 27, 28] (by decide +kernel) (by decide +kernel)
set_option maxRecDepth 20000 in
theorem gX0_takeWidened_X0_wholeAt : GoodIn wsX0_takeWidened (wsV RX0 40 RX0 yX0_wholeAt wsX0_wholeAt) := goodIn_app (goodIn_of _ (by decide +kernel)) ggX0_takeWidened_X0_wholeAt
set_option maxRecDepth 20000 in
theorem ggX0_takeWidened_X0_putWhole : GoodIn wsX0_takeWidened wsX0_putWhole := goodIn_r _ [24, 2, 20, 12, 13, 14, 9, 15, 11, 25, 26, 27, 28] (by decide +kernel) (by decide +kernel)
set_option maxRecDepth 20000 in
theorem gX0_takeWidened_X0_putWhole : GoodIn wsX0_takeWidened (wsV RX0 62 RX0 yX0_putWhole wsX0_putWhole) := goodIn_app (goodIn_of _ (by decide +kernel)) ggX0_takeWidened_X0_putWhole
theorem dX0_takeWidened_0 : decode cX0_takeWidened 0 = .ok (.iconst 0, 1) := by decide +kernel
theorem dX0_takeWidened_1 : decode cX0_takeWidened 1 = .ok (.istore_n 2, 1) := by decide +kernel
theorem dX0_takeWidened_2 : decode cX0_takeWidened 2 = .ok (.iload_n 2, 1) := by decide +kernel
theorem dX0_takeWidened_3 : decode cX0_takeWidened 3 = .ok (.aload_n 1, 1) := by decide +kernel
theorem dX0_takeWidened_4 : decode cX0_takeWidened 4 = .ok (.getfield 22, 3) := by decide +kernel
theorem dX0_takeWidened_7 : decode cX0_takeWidened 7 = .ok (.if_icmp .ge 42, 3) := by decide +kernel
theorem dX0_takeWidened_10 : decode cX0_takeWidened 10 = .ok (.aload_n 1, 1) := by decide +kernel
theorem dX0_takeWidened_11 : decode cX0_takeWidened 11 = .ok (.getfield 16, 3) := by decide +kernel
theorem dX0_takeWidened_14 : decode cX0_takeWidened 14 = .ok (.invokestatic 25, 3) := by decide +kernel
theorem dX0_takeWidened_17 : decode cX0_takeWidened 17 = .ok (.ifCond .eq 16, 3) := by decide +kernel
theorem dX0_takeWidened_20 : decode cX0_takeWidened 20 = .ok (.aload_n 0, 1) := by decide +kernel
theorem dX0_takeWidened_21 : decode cX0_takeWidened 21 = .ok (.iload_n 2, 1) := by decide +kernel
theorem dX0_takeWidened_22 : decode cX0_takeWidened 22 = .ok (.aload_n 1, 1) := by decide +kernel
theorem dX0_takeWidened_23 : decode cX0_takeWidened 23 = .ok (.iload_n 2, 1) := by decide +kernel
theorem dX0_takeWidened_24 : decode cX0_takeWidened 24 = .ok (.invokevirtual 36, 3) := by decide +kernel
theorem dX0_takeWidened_27 : decode cX0_takeWidened 27 = .ok (.invokevirtual 48, 3) := by decide +kernel
theorem dX0_takeWidened_30 : decode cX0_takeWidened 30 = .ok (.goto 13, 3) := by decide +kernel
theorem dX0_takeWidened_33 : decode cX0_takeWidened 33 = .ok (.aload_n 0, 1) := by decide +kernel
theorem dX0_takeWidened_34 : decode cX0_takeWidened 34 = .ok (.iload_n 2, 1) := by decide +kernel
theorem dX0_takeWidened_35 : decode cX0_takeWidened 35 = .ok (.aload_n 1, 1) := by decide +kernel
theorem dX0_takeWidened_36 : decode cX0_takeWidened 36 = .ok (.iload_n 2, 1) := by decide +kernel
theorem dX0_takeWidened_37 : decode cX0_takeWidened 37 = .ok (.invokevirtual 40, 3) := by decide +kernel
theorem dX0_takeWidened_40 : decode cX0_takeWidened 40 = .ok (.invokevirtual 62, 3) := by decide +kernel
theorem dX0_takeWidened_43 : decode cX0_takeWidened 43 = .ok (.iinc 2 1, 3) := by decide +kernel
theorem dX0_takeWidened_46 : decode cX0_takeWidened 46 = .ok (.goto (-44), 3) := by decide +kernel
theorem dX0_takeWidened_49 : decode cX0_takeWidened 49 = .ok (.return_, 1) := by decide +kernel
set_option maxRecDepth 20000 in
theorem ggX0_sum_X0_doubleAt : GoodIn wsX0_sum wsX0_doubleAt := goodIn_r _ [6, 7, 8, 9, 10, 11, 12, 13, 5, 14, 15, 16, 17, 18, 19, 20, 32, 33, 34, 35] (by decide +kernel) (by decide +kernel)
set_option maxRecDepth 20000 in
theorem gX0_sum_X0_doubleAt : GoodIn wsX0_sum (wsV RX0 66 RX0 yX0_doubleAt wsX0_doubleAt) := goodIn_app (goodIn_of _ (by decide +kernel)) ggX0_sum_X0_doubleAt
set_option maxRecDepth 20000 in
theorem ggX0_sum_X2_sumOf : GoodIn wsX0_sum wsX2_sumOf := goodIn_r _ [22, 23, 24, 9, 25, 26, 27, 28, 29, 30, 31] (by decide +kernel) (by decide +kernel)
set_option maxRecDepth 20000 in
theorem gX0_sum_X2_sumOf_n69 : GoodIn wsX0_sum (wsX2_sumOf) := ggX0_sum_X2_sumOf
theorem dX0_sum_0 : decode cX0_sum 0 = .ok (.dconst 0, 1) := by decide +kernel
theorem dX0_sum_1 : decode cX0_sum 1 = .ok (.dstore_n 1, 1) := by decide +kernel
theorem dX0_sum_2 : decode cX0_sum 2 = .ok (.iconst 0, 1) := by decide +kernel
theorem dX0_sum_3 : decode cX0_sum 3 = .ok (.istore_n 3, 1) := by decide +kernel
theorem dX0_sum_4 : decode cX0_sum 4 = .ok (.iload_n 3, 1) := by decide +kernel
theorem dX0_sum_5 : decode cX0_sum 5 = .ok (.aload_n 0, 1) := by decide +kernel
theorem dX0_sum_6 : decode cX0_sum 6 = .ok (.getfield 22, 3) := by decide +kernel
theorem dX0_sum_9 : decode cX0_sum 9 = .ok (.if_icmp .ge 19, 3) := by decide +kernel
theorem dX0_sum_12 : decode cX0_sum 12 = .ok (.dload_n 1, 1) := by decide +kernel
theorem dX0_sum_13 : decode cX0_sum 13 = .ok (.aload_n 0, 1) := by decide +kernel
theorem dX0_sum_14 : decode cX0_sum 14 = .ok (.iload_n 3, 1) := by decide +kernel
theorem dX0_sum_15 : decode cX0_sum 15 = .ok (.invokevirtual 66, 3) := by decide +kernel
theorem dX0_sum_18 : decode cX0_sum 18 = .ok (.invokestatic 69, 3) := by decide +kernel
theorem dX0_sum_21 : decode cX0_sum 21 = .ok (.dstore_n 1, 1) := by decide +kernel
theorem dX0_sum_22 : decode cX0_sum 22 = .ok (.iinc 3 1, 3) := by decide +kernel
theorem dX0_sum_25 : decode cX0_sum 25 = .ok (.goto (-21), 3) := by decide +kernel
theorem dX0_sum_28 : decode cX0_sum 28 = .ok (.dload_n 1, 1) := by decide +kernel
theorem dX0_sum_29 : decode cX0_sum 29 = .ok (.dreturn, 1) := by decide +kernel
theorem dX1_init_0 : decode cX1_init 0 = .ok (.aload_n 0, 1) := by decide +kernel
theorem dX1_init_1 : decode cX1_init 1 = .ok (.invokespecial 1, 3) := by decide +kernel
theorem dX1_init_4 : decode cX1_init 4 = .ok (.aload_n 0, 1) := by decide +kernel
theorem dX1_init_5 : decode cX1_init 5 = .ok (.bipush 10, 2) := by decide +kernel
theorem dX1_init_7 : decode cX1_init 7 = .ok (.newarray .double, 2) := by decide +kernel
theorem dX1_init_9 : decode cX1_init 9 = .ok (.putfield 9, 3) := by decide +kernel
theorem dX1_init_12 : decode cX1_init 12 = .ok (.ldc2_w 13, 3) := by decide +kernel
theorem dX1_init_15 : decode cX1_init 15 = .ok (.dstore_n 1, 1) := by decide +kernel
theorem dX1_init_16 : decode cX1_init 16 = .ok (.iconst 0, 1) := by decide +kernel
theorem dX1_init_17 : decode cX1_init 17 = .ok (.istore_n 3, 1) := by decide +kernel
theorem dX1_init_18 : decode cX1_init 18 = .ok (.iload_n 3, 1) := by decide +kernel
theorem dX1_init_19 : decode cX1_init 19 = .ok (.aload_n 0, 1) := by decide +kernel
theorem dX1_init_20 : decode cX1_init 20 = .ok (.getfield 9, 3) := by decide +kernel
theorem dX1_init_23 : decode cX1_init 23 = .ok (.arraylength, 1) := by decide +kernel
theorem dX1_init_24 : decode cX1_init 24 = .ok (.if_icmp .ge 20, 3) := by decide +kernel
theorem dX1_init_27 : decode cX1_init 27 = .ok (.aload_n 0, 1) := by decide +kernel
theorem dX1_init_28 : decode cX1_init 28 = .ok (.getfield 9, 3) := by decide +kernel
theorem dX1_init_31 : decode cX1_init 31 = .ok (.iload_n 3, 1) := by decide +kernel
theorem dX1_init_32 : decode cX1_init 32 = .ok (.dload_n 1, 1) := by decide +kernel
theorem dX1_init_33 : decode cX1_init 33 = .ok (.dastore, 1) := by decide +kernel
theorem dX1_init_34 : decode cX1_init 34 = .ok (.dload_n 1, 1) := by decide +kernel
theorem dX1_init_35 : decode cX1_init 35 = .ok (.dload_n 1, 1) := by decide +kernel
theorem dX1_init_36 : decode cX1_init 36 = .ok (.dmul, 1) := by decide +kernel
theorem dX1_init_37 : decode cX1_init 37 = .ok (.dstore_n 1, 1) := by decide +kernel
theorem dX1_init_38 : decode cX1_init 38 = .ok (.iinc 3 1, 3) := by decide +kernel
theorem dX1_init_41 : decode cX1_init 41 = .ok (.goto (-23), 3) := by decide +kernel
theorem dX1_init_44 : decode cX1_init 44 = .ok (.return_, 1) := by decide +kernel
set_option maxRecDepth 20000 in
theorem ggX2_init_X1_init : GoodIn wsX2_init wsX1_init := goodIn_r _ [16, 17, 2, 3, 18, 19, 20, 26] (by decide +kernel) (by decide +kernel)
set_option maxRecDepth 20000 in
theorem gX2_init_X1_init : GoodIn wsX2_init (wsX1_init) := ggX2_init_X1_init
theorem dX2_init_0 : decode cX2_init 0 = .ok (.aload_n 0, 1) := by decide +kernel
theorem dX2_init_1 : decode cX2_init 1 = .ok (.invokespecial 1, 3) := by decide +kernel
theorem dX2_init_4 : decode cX2_init 4 = .ok (.aload_n 0, 1) := by decide +kernel
theorem dX2_init_5 : decode cX2_init 5 = .ok (.bipush 60, 2) := by decide +kernel
theorem dX2_init_7 : decode cX2_init 7 = .ok (.anewarray 9, 3) := by decide +kernel
theorem dX2_init_10 : decode cX2_init 10 = .ok (.putfield 11, 3) := by decide +kernel
theorem dX2_init_13 : decode cX2_init 13 = .ok (.aload_n 0, 1) := by decide +kernel
theorem dX2_init_14 : decode cX2_init 14 = .ok (.bipush 6, 2) := by decide +kernel
theorem dX2_init_16 : decode cX2_init 16 = .ok (.newarray .int, 2) := by decide +kernel
theorem dX2_init_18 : decode cX2_init 18 = .ok (.putfield 15, 3) := by decide +kernel
theorem dX2_init_21 : decode cX2_init 21 = .ok (.aload_n 0, 1) := by decide +kernel
theorem dX2_init_22 : decode cX2_init 22 = .ok (.new 19, 3) := by decide +kernel
theorem dX2_init_25 : decode cX2_init 25 = .ok (.dup, 1) := by decide +kernel
theorem dX2_init_26 : decode cX2_init 26 = .ok (.invokespecial 21, 3) := by decide +kernel
theorem dX2_init_29 : decode cX2_init 29 = .ok (.putfield 22, 3) := by decide +kernel
theorem dX2_init_32 : decode cX2_init 32 = .ok (.aload_n 0, 1) := by decide +kernel
theorem dX2_init_33 : decode cX2_init 33 = .ok (.iconst 0, 1) := by decide +kernel
theorem dX2_init_34 : decode cX2_init 34 = .ok (.putfield 26, 3) := by decide +kernel
theorem dX2_init_37 : decode cX2_init 37 = .ok (.aload_n 0, 1) := by decide +kernel
theorem dX2_init_38 : decode cX2_init 38 = .ok (.iconst 0, 1) := by decide +kernel
theorem dX2_init_39 : decode cX2_init 39 = .ok (.putfield 30, 3) := by decide +kernel
theorem dX2_init_42 : decode cX2_init 42 = .ok (.return_, 1) := by decide +kernel
set_option maxRecDepth 20000 in
theorem ggX2_create_X2_isKind : GoodIn wsX2_create wsX2_isKind := goodIn_r _ [9] (by decide +kernel) (by decide +kernel)
set_option maxRecDepth 20000 in
theorem gX2_create_X2_isKind : GoodIn wsX2_create (va_wsS RX2 33 yX2_isKind wsX2_isKind) := goodIn_app (goodIn_of _ (by decide +kernel)) ggX2_create_X2_isKind
set_option maxRecDepth 20000 in
theorem ggX2_create_X2_holdsCells : GoodIn wsX2_create wsX2_holdsCells := goodIn_r _ [12] (by decide +kernel) (by decide +kernel)
set_option maxRecDepth 20000 in
theorem gX2_create_X2_holdsCells : GoodIn wsX2_create (va_wsS RX2 44 yX2_holdsCells wsX2_holdsCells) := goodIn_app (goodIn_of _ (by decide +kernel)) ggX2_create_X2_holdsCells
set_option maxRecDepth 20000 in
theorem ggX2_create_X2_isLength : GoodIn wsX2_create wsX2_isLength := goodIn_r _ [15] (by decide +kernel) (by decide +kernel)
set_option maxRecDepth 20000 in
theorem gX2_create_X2_isLength : GoodIn wsX2_create (va_wsS RX2 47 yX2_isLength wsX2_isLength) := goodIn_app (goodIn_of _ (by decide +kernel)) ggX2_create_X2_isLength
set_option maxRecDepth 20000 in
theorem ggX2_create_X2_refuseWhenFull : GoodIn wsX2_create wsX2_refuseWhenFull := goodIn_ca (goodIn_r _ [19, 20, 21, 22, 23, 46, 47, 48, 49, 50] (by decide +kernel) (by decide +kernel)) (goodIn_sub (fun _ h => List.mem_cons_of_mem _ (List.mem_append_right _ h)) (by decide +kernel))
set_option maxRecDepth 20000 in
theorem gX2_create_X2_refuseWhenFull : GoodIn wsX2_create (wsV RX2 52 RX2 yX2_refuseWhenFull wsX2_refuseWhenFull) := goodIn_app (goodIn_of _ (by decide +kernel)) ggX2_create_X2_refuseWhenFull
set_option maxRecDepth 20000 in
theorem ggX2_create_X0_init : GoodIn wsX2_create wsX0_init := goodIn_r _ [26, 27, 28, 29, 30, 31, 32, 33, 34, 35, 11, 8, 12, 14, 15, 36, 37, 42, 43, 44, 45] (by decide +kernel) (by decide +kernel)
set_option maxRecDepth 20000 in
theorem gX2_create_X0_init : GoodIn wsX2_create (wsX0_init) := ggX2_create_X0_init
set_option maxRecDepth 20000 in
theorem ggX2_create_X2_addColumn : GoodIn wsX2_create wsX2_addColumn := goodIn_r _ [41, 22, 23, 46, 47, 48, 49, 50] (by decide +kernel) (by decide +kernel)
set_option maxRecDepth 20000 in
theorem gX2_create_X2_addColumn : GoodIn wsX2_create (wsV RX2 58 RX2 yX2_addColumn wsX2_addColumn) := goodIn_app (goodIn_of _ (by decide +kernel)) ggX2_create_X2_addColumn
theorem dX2_create_0 : decode cX2_create 0 = .ok (.iload_n 1, 1) := by decide +kernel
theorem dX2_create_1 : decode cX2_create 1 = .ok (.invokestatic 33, 3) := by decide +kernel
theorem dX2_create_4 : decode cX2_create 4 = .ok (.ifCond .ne 13, 3) := by decide +kernel
theorem dX2_create_7 : decode cX2_create 7 = .ok (.new 37, 3) := by decide +kernel
theorem dX2_create_10 : decode cX2_create 10 = .ok (.dup, 1) := by decide +kernel
theorem dX2_create_11 : decode cX2_create 11 = .ok (.ldc 39, 2) := by decide +kernel
theorem dX2_create_13 : decode cX2_create 13 = .ok (.invokespecial 41, 3) := by decide +kernel
theorem dX2_create_16 : decode cX2_create 16 = .ok (.athrow, 1) := by decide +kernel
theorem dX2_create_17 : decode cX2_create 17 = .ok (.iload_n 1, 1) := by decide +kernel
theorem dX2_create_18 : decode cX2_create 18 = .ok (.invokestatic 44, 3) := by decide +kernel
theorem dX2_create_21 : decode cX2_create 21 = .ok (.ifCond .eq 20, 3) := by decide +kernel
theorem dX2_create_24 : decode cX2_create 24 = .ok (.iload_n 2, 1) := by decide +kernel
theorem dX2_create_25 : decode cX2_create 25 = .ok (.invokestatic 47, 3) := by decide +kernel
theorem dX2_create_28 : decode cX2_create 28 = .ok (.ifCond .ne 13, 3) := by decide +kernel
theorem dX2_create_31 : decode cX2_create 31 = .ok (.new 37, 3) := by decide +kernel
theorem dX2_create_34 : decode cX2_create 34 = .ok (.dup, 1) := by decide +kernel
theorem dX2_create_35 : decode cX2_create 35 = .ok (.ldc 50, 2) := by decide +kernel
theorem dX2_create_37 : decode cX2_create 37 = .ok (.invokespecial 41, 3) := by decide +kernel
theorem dX2_create_40 : decode cX2_create 40 = .ok (.athrow, 1) := by decide +kernel
theorem dX2_create_41 : decode cX2_create 41 = .ok (.aload_n 0, 1) := by decide +kernel
theorem dX2_create_42 : decode cX2_create 42 = .ok (.invokevirtual 52, 3) := by decide +kernel
theorem dX2_create_45 : decode cX2_create 45 = .ok (.aload_n 0, 1) := by decide +kernel
theorem dX2_create_46 : decode cX2_create 46 = .ok (.new 9, 3) := by decide +kernel
theorem dX2_create_49 : decode cX2_create 49 = .ok (.dup, 1) := by decide +kernel
theorem dX2_create_50 : decode cX2_create 50 = .ok (.iload_n 1, 1) := by decide +kernel
theorem dX2_create_51 : decode cX2_create 51 = .ok (.iload_n 2, 1) := by decide +kernel
theorem dX2_create_52 : decode cX2_create 52 = .ok (.invokespecial 55, 3) := by decide +kernel
theorem dX2_create_55 : decode cX2_create 55 = .ok (.invokevirtual 58, 3) := by decide +kernel
theorem dX2_create_58 : decode cX2_create 58 = .ok (.ireturn, 1) := by decide +kernel
theorem dX2_columnCount_0 : decode cX2_columnCount 0 = .ok (.aload_n 0, 1) := by decide +kernel
theorem dX2_columnCount_1 : decode cX2_columnCount 1 = .ok (.getfield 26, 3) := by decide +kernel
theorem dX2_columnCount_4 : decode cX2_columnCount 4 = .ok (.ireturn, 1) := by decide +kernel
set_option maxRecDepth 20000 in
theorem ggX2_readAny_X2_columnAt : GoodIn wsX2_readAny wsX2_columnAt := goodIn_ca (goodIn_r _ [6, 7, 8, 9, 55, 56, 57, 58, 59] (by decide +kernel) (by decide +kernel)) (goodIn_sub (fun _ h => List.mem_cons_of_mem _ (List.mem_append_right _ h)) (by decide +kernel))
set_option maxRecDepth 20000 in
theorem gX2_readAny_X2_columnAt : GoodIn wsX2_readAny (wsV RX2 62 RX2 yX2_columnAt wsX2_columnAt) := goodIn_app (goodIn_of _ (by decide +kernel)) ggX2_readAny_X2_columnAt
set_option maxRecDepth 20000 in
theorem ggX2_readAny_X2_readReal : GoodIn wsX2_readAny wsX2_readReal := goodIn_r _ [13, 1, 14, 15, 5, 16, 17, 18, 19, 20, 21, 22, 23, 24, 25, 26, 27, 28, 29, 30, 31, 32, 33, 34, 35, 36, 37, 38, 39, 40, 41, 42, 43, 44, 45, 46, 47, 48, 49, 50, 51, 52, 53, 54, 55, 56, 57, 58, 59] (by decide +kernel) (by decide +kernel)
set_option maxRecDepth 20000 in
theorem gX2_readAny_X2_readReal : GoodIn wsX2_readAny (wsV RX2 91 RX2 yX2_readReal wsX2_readReal) := goodIn_app (goodIn_of _ (by decide +kernel)) ggX2_readAny_X2_readReal
theorem dX2_readAny_0 : decode cX2_readAny 0 = .ok (.aload_n 0, 1) := by decide +kernel
theorem dX2_readAny_1 : decode cX2_readAny 1 = .ok (.iload_n 1, 1) := by decide +kernel
theorem dX2_readAny_2 : decode cX2_readAny 2 = .ok (.invokevirtual 62, 3) := by decide +kernel
theorem dX2_readAny_5 : decode cX2_readAny 5 = .ok (.astore_n 3, 1) := by decide +kernel
theorem dX2_readAny_6 : decode cX2_readAny 6 = .ok (.aload_n 0, 1) := by decide +kernel
theorem dX2_readAny_7 : decode cX2_readAny 7 = .ok (.aload_n 3, 1) := by decide +kernel
theorem dX2_readAny_8 : decode cX2_readAny 8 = .ok (.iload_n 2, 1) := by decide +kernel
theorem dX2_readAny_9 : decode cX2_readAny 9 = .ok (.aload_n 3, 1) := by decide +kernel
theorem dX2_readAny_10 : decode cX2_readAny 10 = .ok (.getfield 66, 3) := by decide +kernel
theorem dX2_readAny_13 : decode cX2_readAny 13 = .ok (.invokevirtual 91, 3) := by decide +kernel
theorem dX2_readAny_16 : decode cX2_readAny 16 = .ok (.dreturn, 1) := by decide +kernel
set_option maxRecDepth 20000 in
theorem ggX2_writeAny_X2_columnAt : GoodIn wsX2_writeAny wsX2_columnAt := goodIn_ca (goodIn_r _ [5, 6, 7, 8, 58, 59, 60, 61, 62] (by decide +kernel) (by decide +kernel)) (goodIn_sub (fun _ h => List.mem_cons_of_mem _ (List.mem_append_left _ (List.mem_append_right _ h))) (by decide +kernel))
set_option maxRecDepth 20000 in
theorem gX2_writeAny_X2_columnAt : GoodIn wsX2_writeAny (wsV RX2 62 RX2 yX2_columnAt wsX2_columnAt) := goodIn_app (goodIn_of _ (by decide +kernel)) ggX2_writeAny_X2_columnAt
set_option maxRecDepth 20000 in
theorem ggX2_writeAny_X2_refuseWithoutCells : GoodIn wsX2_writeAny wsX2_refuseWithoutCells := goodIn_ca (goodIn_r _ [11, 12, 13, 14, 15, 4, 16] (by decide +kernel) (by decide +kernel)) (goodIn_sub (fun _ h => List.mem_cons_of_mem _ (List.mem_append_right _ h)) (by decide +kernel))
set_option maxRecDepth 20000 in
theorem gX2_writeAny_X2_refuseWithoutCells : GoodIn wsX2_writeAny (va_wsS RX2 107 yX2_refuseWithoutCells wsX2_refuseWithoutCells) := goodIn_app (goodIn_of _ (by decide +kernel)) ggX2_writeAny_X2_refuseWithoutCells
set_option maxRecDepth 20000 in
theorem ggX2_writeAny_X2_writeReal : GoodIn wsX2_writeAny wsX2_writeReal := goodIn_r _ [20, 21, 22, 23, 4, 24, 25, 26, 27, 28, 29, 30, 31, 14, 15, 16, 32, 33, 34, 35, 36, 37, 38, 39, 40, 41, 42, 43, 63, 64, 65, 66, 58, 59, 60, 61, 62] (by decide +kernel) (by decide +kernel)
set_option maxRecDepth 20000 in
theorem gX2_writeAny_X2_writeReal : GoodIn wsX2_writeAny (wsV RX2 103 RX2 yX2_writeReal wsX2_writeReal) := goodIn_app (goodIn_of _ (by decide +kernel)) ggX2_writeAny_X2_writeReal
set_option maxRecDepth 20000 in
theorem ggX2_writeAny_X2_wholeMadeFrom : GoodIn wsX2_writeAny wsX2_wholeMadeFrom := goodIn_r _ [46] (by decide +kernel) (by decide +kernel)
set_option maxRecDepth 20000 in
theorem gX2_writeAny_X2_wholeMadeFrom : GoodIn wsX2_writeAny (va_wsS RX2 111 yX2_wholeMadeFrom wsX2_wholeMadeFrom) := goodIn_app (goodIn_of _ (by decide +kernel)) ggX2_writeAny_X2_wholeMadeFrom
set_option maxRecDepth 20000 in
theorem ggX2_writeAny_X2_writeWhole : GoodIn wsX2_writeAny wsX2_writeWhole := goodIn_r _ [50, 21, 22, 23, 4, 24, 25, 26, 27, 28, 29, 30, 31, 14, 15, 16, 32, 33, 34, 35, 36, 37, 51, 52, 53, 41, 54, 55, 56, 57, 39, 40, 42, 43, 63, 64, 65, 66, 58, 59, 60, 61, 62] (by decide +kernel) (by decide +kernel)
set_option maxRecDepth 20000 in
theorem gX2_writeAny_X2_writeWhole : GoodIn wsX2_writeAny (wsV RX2 95 RX2 yX2_writeWhole wsX2_writeWhole) := goodIn_app (goodIn_of _ (by decide +kernel)) ggX2_writeAny_X2_writeWhole
theorem dX2_writeAny_0 : decode cX2_writeAny 0 = .ok (.aload_n 0, 1) := by decide +kernel
theorem dX2_writeAny_1 : decode cX2_writeAny 1 = .ok (.iload_n 1, 1) := by decide +kernel
theorem dX2_writeAny_2 : decode cX2_writeAny 2 = .ok (.invokevirtual 62, 3) := by decide +kernel
theorem dX2_writeAny_5 : decode cX2_writeAny 5 = .ok (.astore 5, 2) := by decide +kernel
theorem dX2_writeAny_7 : decode cX2_writeAny 7 = .ok (.iload_n 3, 1) := by decide +kernel
theorem dX2_writeAny_8 : decode cX2_writeAny 8 = .ok (.invokestatic 107, 3) := by decide +kernel
theorem dX2_writeAny_11 : decode cX2_writeAny 11 = .ok (.iload_n 3, 1) := by decide +kernel
theorem dX2_writeAny_12 : decode cX2_writeAny 12 = .ok (.bipush 7, 2) := by decide +kernel
theorem dX2_writeAny_14 : decode cX2_writeAny 14 = .ok (.if_icmp .ne 16, 3) := by decide +kernel
theorem dX2_writeAny_17 : decode cX2_writeAny 17 = .ok (.aload_n 0, 1) := by decide +kernel
theorem dX2_writeAny_18 : decode cX2_writeAny 18 = .ok (.aload 5, 2) := by decide +kernel
theorem dX2_writeAny_20 : decode cX2_writeAny 20 = .ok (.iload_n 2, 1) := by decide +kernel
theorem dX2_writeAny_21 : decode cX2_writeAny 21 = .ok (.iload_n 3, 1) := by decide +kernel
theorem dX2_writeAny_22 : decode cX2_writeAny 22 = .ok (.iload 4, 2) := by decide +kernel
theorem dX2_writeAny_24 : decode cX2_writeAny 24 = .ok (.i2f, 1) := by decide +kernel
theorem dX2_writeAny_25 : decode cX2_writeAny 25 = .ok (.f2d, 1) := by decide +kernel
theorem dX2_writeAny_26 : decode cX2_writeAny 26 = .ok (.invokevirtual 103, 3) := by decide +kernel
theorem dX2_writeAny_29 : decode cX2_writeAny 29 = .ok (.ireturn, 1) := by decide +kernel
theorem dX2_writeAny_30 : decode cX2_writeAny 30 = .ok (.iload_n 3, 1) := by decide +kernel
theorem dX2_writeAny_31 : decode cX2_writeAny 31 = .ok (.bipush 8, 2) := by decide +kernel
theorem dX2_writeAny_33 : decode cX2_writeAny 33 = .ok (.if_icmp .ne 15, 3) := by decide +kernel
theorem dX2_writeAny_36 : decode cX2_writeAny 36 = .ok (.aload_n 0, 1) := by decide +kernel
theorem dX2_writeAny_37 : decode cX2_writeAny 37 = .ok (.aload 5, 2) := by decide +kernel
theorem dX2_writeAny_39 : decode cX2_writeAny 39 = .ok (.iload_n 2, 1) := by decide +kernel
theorem dX2_writeAny_40 : decode cX2_writeAny 40 = .ok (.iload_n 3, 1) := by decide +kernel
theorem dX2_writeAny_41 : decode cX2_writeAny 41 = .ok (.iload 4, 2) := by decide +kernel
theorem dX2_writeAny_43 : decode cX2_writeAny 43 = .ok (.i2d, 1) := by decide +kernel
theorem dX2_writeAny_44 : decode cX2_writeAny 44 = .ok (.invokevirtual 103, 3) := by decide +kernel
theorem dX2_writeAny_47 : decode cX2_writeAny 47 = .ok (.ireturn, 1) := by decide +kernel
theorem dX2_writeAny_48 : decode cX2_writeAny 48 = .ok (.aload_n 0, 1) := by decide +kernel
theorem dX2_writeAny_49 : decode cX2_writeAny 49 = .ok (.aload 5, 2) := by decide +kernel
theorem dX2_writeAny_51 : decode cX2_writeAny 51 = .ok (.iload_n 2, 1) := by decide +kernel
theorem dX2_writeAny_52 : decode cX2_writeAny 52 = .ok (.iload_n 3, 1) := by decide +kernel
theorem dX2_writeAny_53 : decode cX2_writeAny 53 = .ok (.iload 4, 2) := by decide +kernel
theorem dX2_writeAny_55 : decode cX2_writeAny 55 = .ok (.iload_n 3, 1) := by decide +kernel
theorem dX2_writeAny_56 : decode cX2_writeAny 56 = .ok (.invokestatic 111, 3) := by decide +kernel
theorem dX2_writeAny_59 : decode cX2_writeAny 59 = .ok (.invokevirtual 95, 3) := by decide +kernel
theorem dX2_writeAny_62 : decode cX2_writeAny 62 = .ok (.ireturn, 1) := by decide +kernel
set_option maxRecDepth 20000 in
theorem ggX2_copy_X2_columnAt : GoodIn wsX2_copy wsX2_columnAt := goodIn_ca (goodIn_r _ [6, 7, 8, 9, 38, 39, 40, 41, 42] (by decide +kernel) (by decide +kernel)) (goodIn_sub (fun _ h => List.mem_cons_of_mem _ (List.mem_append_right _ h)) (by decide +kernel))
set_option maxRecDepth 20000 in
theorem gX2_copy_X2_columnAt : GoodIn wsX2_copy (wsV RX2 62 RX2 yX2_columnAt wsX2_columnAt) := goodIn_app (goodIn_of _ (by decide +kernel)) ggX2_copy_X2_columnAt
set_option maxRecDepth 20000 in
theorem ggX2_copy_X2_codeOfKinds : GoodIn wsX2_copy wsX2_codeOfKinds := goodIn_r _ [12, 13, 34, 35, 36, 37] (by decide +kernel) (by decide +kernel)
set_option maxRecDepth 20000 in
theorem gX2_copy_X2_codeOfKinds : GoodIn wsX2_copy (va_wsS RX2 115 yX2_codeOfKinds wsX2_codeOfKinds) := goodIn_app (goodIn_of _ (by decide +kernel)) ggX2_copy_X2_codeOfKinds
set_option maxRecDepth 20000 in
theorem ggX2_copy_X2_isPart : GoodIn wsX2_copy wsX2_isPart := goodIn_r _ [16] (by decide +kernel) (by decide +kernel)
set_option maxRecDepth 20000 in
theorem gX2_copy_X2_isPart : GoodIn wsX2_copy (va_wsS RX2 119 yX2_isPart wsX2_isPart) := goodIn_app (goodIn_of _ (by decide +kernel)) ggX2_copy_X2_isPart
set_option maxRecDepth 20000 in
theorem ggX2_copy_X0_takeCells : GoodIn wsX2_copy wsX0_takeCells := goodIn_r _ [21, 22, 23, 24, 25, 26, 27, 15, 5, 16, 34, 35, 36, 37] (by decide +kernel) (by decide +kernel)
set_option maxRecDepth 20000 in
theorem gX2_copy_X0_takeCells : GoodIn wsX2_copy (wsV RX2 123 RX0 yX0_takeCells wsX0_takeCells) := goodIn_app (goodIn_of _ (by decide +kernel)) ggX2_copy_X0_takeCells
set_option maxRecDepth 20000 in
theorem ggX2_copy_X2_note : GoodIn wsX2_copy wsX2_note := goodIn_r _ [31, 32, 33, 38, 39, 40, 41, 42] (by decide +kernel) (by decide +kernel)
set_option maxRecDepth 20000 in
theorem gX2_copy_X2_note : GoodIn wsX2_copy (wsV RX2 72 RX2 yX2_note wsX2_note) := goodIn_app (goodIn_of _ (by decide +kernel)) ggX2_copy_X2_note
theorem dX2_copy_0 : decode cX2_copy 0 = .ok (.aload_n 0, 1) := by decide +kernel
theorem dX2_copy_1 : decode cX2_copy 1 = .ok (.iload_n 1, 1) := by decide +kernel
theorem dX2_copy_2 : decode cX2_copy 2 = .ok (.invokevirtual 62, 3) := by decide +kernel
theorem dX2_copy_5 : decode cX2_copy 5 = .ok (.astore 6, 2) := by decide +kernel
theorem dX2_copy_7 : decode cX2_copy 7 = .ok (.aload_n 0, 1) := by decide +kernel
theorem dX2_copy_8 : decode cX2_copy 8 = .ok (.iload_n 3, 1) := by decide +kernel
theorem dX2_copy_9 : decode cX2_copy 9 = .ok (.invokevirtual 62, 3) := by decide +kernel
theorem dX2_copy_12 : decode cX2_copy 12 = .ok (.astore 7, 2) := by decide +kernel
theorem dX2_copy_14 : decode cX2_copy 14 = .ok (.aload 6, 2) := by decide +kernel
theorem dX2_copy_16 : decode cX2_copy 16 = .ok (.aload 7, 2) := by decide +kernel
theorem dX2_copy_18 : decode cX2_copy 18 = .ok (.invokestatic 115, 3) := by decide +kernel
theorem dX2_copy_21 : decode cX2_copy 21 = .ok (.istore 8, 2) := by decide +kernel
theorem dX2_copy_23 : decode cX2_copy 23 = .ok (.iload 8, 2) := by decide +kernel
theorem dX2_copy_25 : decode cX2_copy 25 = .ok (.ifCond .ne 35, 3) := by decide +kernel
theorem dX2_copy_28 : decode cX2_copy 28 = .ok (.iload_n 2, 1) := by decide +kernel
theorem dX2_copy_29 : decode cX2_copy 29 = .ok (.iload 5, 2) := by decide +kernel
theorem dX2_copy_31 : decode cX2_copy 31 = .ok (.aload 6, 2) := by decide +kernel
theorem dX2_copy_33 : decode cX2_copy 33 = .ok (.getfield 76, 3) := by decide +kernel
theorem dX2_copy_36 : decode cX2_copy 36 = .ok (.invokestatic 119, 3) := by decide +kernel
theorem dX2_copy_39 : decode cX2_copy 39 = .ok (.ifCond .eq 18, 3) := by decide +kernel
theorem dX2_copy_42 : decode cX2_copy 42 = .ok (.iload 4, 2) := by decide +kernel
theorem dX2_copy_44 : decode cX2_copy 44 = .ok (.iload 5, 2) := by decide +kernel
theorem dX2_copy_46 : decode cX2_copy 46 = .ok (.aload 7, 2) := by decide +kernel
theorem dX2_copy_48 : decode cX2_copy 48 = .ok (.getfield 76, 3) := by decide +kernel
theorem dX2_copy_51 : decode cX2_copy 51 = .ok (.invokestatic 119, 3) := by decide +kernel
theorem dX2_copy_54 : decode cX2_copy 54 = .ok (.ifCond .ne 6, 3) := by decide +kernel
theorem dX2_copy_57 : decode cX2_copy 57 = .ok (.iconst 3, 1) := by decide +kernel
theorem dX2_copy_58 : decode cX2_copy 58 = .ok (.istore 8, 2) := by decide +kernel
theorem dX2_copy_60 : decode cX2_copy 60 = .ok (.iload 8, 2) := by decide +kernel
theorem dX2_copy_62 : decode cX2_copy 62 = .ok (.ifCond .ne 15, 3) := by decide +kernel
theorem dX2_copy_65 : decode cX2_copy 65 = .ok (.aload 7, 2) := by decide +kernel
theorem dX2_copy_67 : decode cX2_copy 67 = .ok (.aload 6, 2) := by decide +kernel
theorem dX2_copy_69 : decode cX2_copy 69 = .ok (.iload_n 2, 1) := by decide +kernel
theorem dX2_copy_70 : decode cX2_copy 70 = .ok (.iload 4, 2) := by decide +kernel
theorem dX2_copy_72 : decode cX2_copy 72 = .ok (.iload 5, 2) := by decide +kernel
theorem dX2_copy_74 : decode cX2_copy 74 = .ok (.invokevirtual 123, 3) := by decide +kernel
theorem dX2_copy_77 : decode cX2_copy 77 = .ok (.aload_n 0, 1) := by decide +kernel
theorem dX2_copy_78 : decode cX2_copy 78 = .ok (.iload 8, 2) := by decide +kernel
theorem dX2_copy_80 : decode cX2_copy 80 = .ok (.invokevirtual 72, 3) := by decide +kernel
theorem dX2_copy_83 : decode cX2_copy 83 = .ok (.ireturn, 1) := by decide +kernel
set_option maxRecDepth 20000 in
theorem ggX2_total_X2_columnAt : GoodIn wsX2_total wsX2_columnAt := goodIn_ca (goodIn_r _ [5, 6, 7, 8, 53, 54, 55, 56, 57] (by decide +kernel) (by decide +kernel)) (goodIn_sub (fun _ h => List.mem_cons_of_mem _ (List.mem_append_right _ h)) (by decide +kernel))
set_option maxRecDepth 20000 in
theorem gX2_total_X2_columnAt : GoodIn wsX2_total (wsV RX2 62 RX2 yX2_columnAt wsX2_columnAt) := goodIn_app (goodIn_of _ (by decide +kernel)) ggX2_total_X2_columnAt
set_option maxRecDepth 20000 in
theorem ggX2_total_X2_codeOfColumn : GoodIn wsX2_total wsX2_codeOfColumn := goodIn_r _ [11, 12, 58, 59, 60, 61] (by decide +kernel) (by decide +kernel)
set_option maxRecDepth 20000 in
theorem gX2_total_X2_codeOfColumn : GoodIn wsX2_total (va_wsS RX2 69 yX2_codeOfColumn wsX2_codeOfColumn) := goodIn_app (goodIn_of _ (by decide +kernel)) ggX2_total_X2_codeOfColumn
set_option maxRecDepth 20000 in
theorem ggX2_total_X2_note : GoodIn wsX2_total wsX2_note := goodIn_r _ [16, 17, 18, 53, 54, 55, 56, 57] (by decide +kernel) (by decide +kernel)
set_option maxRecDepth 20000 in
theorem gX2_total_X2_note : GoodIn wsX2_total (wsV RX2 72 RX2 yX2_note wsX2_note) := goodIn_app (goodIn_of _ (by decide +kernel)) ggX2_total_X2_note
set_option maxRecDepth 20000 in
theorem ggX2_total_X0_sum : GoodIn wsX2_total wsX0_sum := goodIn_r _ [23, 24, 25, 26, 27, 22, 28, 29, 30, 4, 31, 32, 33, 34, 35, 36, 37, 38, 39, 40, 41, 42, 43, 44, 45, 46, 47, 48, 49, 50, 51, 52, 58, 59, 60, 61] (by decide +kernel) (by decide +kernel)
set_option maxRecDepth 20000 in
theorem gX2_total_X0_sum : GoodIn wsX2_total (wsV RX2 127 RX0 yX0_sum wsX0_sum) := goodIn_app (goodIn_of _ (by decide +kernel)) ggX2_total_X0_sum
theorem dX2_total_0 : decode cX2_total 0 = .ok (.aload_n 0, 1) := by decide +kernel
theorem dX2_total_1 : decode cX2_total 1 = .ok (.iload_n 1, 1) := by decide +kernel
theorem dX2_total_2 : decode cX2_total 2 = .ok (.invokevirtual 62, 3) := by decide +kernel
theorem dX2_total_5 : decode cX2_total 5 = .ok (.astore_n 2, 1) := by decide +kernel
theorem dX2_total_6 : decode cX2_total 6 = .ok (.aload_n 0, 1) := by decide +kernel
theorem dX2_total_7 : decode cX2_total 7 = .ok (.aload_n 2, 1) := by decide +kernel
theorem dX2_total_8 : decode cX2_total 8 = .ok (.invokestatic 69, 3) := by decide +kernel
theorem dX2_total_11 : decode cX2_total 11 = .ok (.invokevirtual 72, 3) := by decide +kernel
theorem dX2_total_14 : decode cX2_total 14 = .ok (.istore_n 3, 1) := by decide +kernel
theorem dX2_total_15 : decode cX2_total 15 = .ok (.iload_n 3, 1) := by decide +kernel
theorem dX2_total_16 : decode cX2_total 16 = .ok (.ifCond .ne 10, 3) := by decide +kernel
theorem dX2_total_19 : decode cX2_total 19 = .ok (.aload_n 2, 1) := by decide +kernel
theorem dX2_total_20 : decode cX2_total 20 = .ok (.invokevirtual 127, 3) := by decide +kernel
theorem dX2_total_23 : decode cX2_total 23 = .ok (.goto 4, 3) := by decide +kernel
theorem dX2_total_26 : decode cX2_total 26 = .ok (.dconst 0, 1) := by decide +kernel
theorem dX2_total_27 : decode cX2_total 27 = .ok (.dreturn, 1) := by decide +kernel
set_option maxRecDepth 20000 in
theorem ggX2_widened_X2_columnAt : GoodIn wsX2_widened wsX2_columnAt := goodIn_ca (goodIn_r _ [10, 11, 12, 13, 85, 86, 87, 88, 89] (by decide +kernel) (by decide +kernel)) (goodIn_sub (fun _ h => List.mem_cons_of_mem _ (List.mem_append_left _ (List.mem_append_left _ (List.mem_append_right _ h)))) (by decide +kernel))
set_option maxRecDepth 20000 in
theorem gX2_widened_X2_columnAt : GoodIn wsX2_widened (wsV RX2 62 RX2 yX2_columnAt wsX2_columnAt) := goodIn_app (goodIn_of _ (by decide +kernel)) ggX2_widened_X2_columnAt
set_option maxRecDepth 20000 in
theorem ggX2_widened_X2_refuseWithoutCells : GoodIn wsX2_widened wsX2_refuseWithoutCells := goodIn_ca (goodIn_r _ [16, 17, 18, 19, 20, 9, 21] (by decide +kernel) (by decide +kernel)) (goodIn_sub (fun _ h => List.mem_cons_of_mem _ (List.mem_append_left _ (List.mem_append_right _ h))) (by decide +kernel))
set_option maxRecDepth 20000 in
theorem gX2_widened_X2_refuseWithoutCells : GoodIn wsX2_widened (va_wsS RX2 107 yX2_refuseWithoutCells wsX2_refuseWithoutCells) := goodIn_app (goodIn_of _ (by decide +kernel)) ggX2_widened_X2_refuseWithoutCells
set_option maxRecDepth 20000 in
theorem ggX2_widened_X2_refuseWhenFull : GoodIn wsX2_widened wsX2_refuseWhenFull := goodIn_ca (goodIn_r _ [25, 26, 27, 28, 13, 85, 86, 87, 88, 89] (by decide +kernel) (by decide +kernel)) (goodIn_sub (fun _ h => List.mem_cons_of_mem _ (List.mem_append_right _ h)) (by decide +kernel))
set_option maxRecDepth 20000 in
theorem gX2_widened_X2_refuseWhenFull : GoodIn wsX2_widened (wsV RX2 52 RX2 yX2_refuseWhenFull wsX2_refuseWhenFull) := goodIn_app (goodIn_of _ (by decide +kernel)) ggX2_widened_X2_refuseWhenFull
set_option maxRecDepth 20000 in
theorem ggX2_widened_X2_codeOfColumn : GoodIn wsX2_widened wsX2_codeOfColumn := goodIn_r _ [31, 1, 81, 82, 83, 84] (by decide +kernel) (by decide +kernel)
set_option maxRecDepth 20000 in
theorem gX2_widened_X2_codeOfColumn : GoodIn wsX2_widened (va_wsS RX2 69 yX2_codeOfColumn wsX2_codeOfColumn) := goodIn_app (goodIn_of _ (by decide +kernel)) ggX2_widened_X2_codeOfColumn
set_option maxRecDepth 20000 in
theorem ggX2_widened_X2_widens : GoodIn wsX2_widened wsX2_widens := goodIn_r _ [34, 19, 20, 9, 21] (by decide +kernel) (by decide +kernel)
set_option maxRecDepth 20000 in
theorem gX2_widened_X2_widens : GoodIn wsX2_widened (va_wsS RX2 131 yX2_widens wsX2_widens) := goodIn_app (goodIn_of _ (by decide +kernel)) ggX2_widened_X2_widens
set_option maxRecDepth 20000 in
theorem ggX2_widened_X2_note : GoodIn wsX2_widened wsX2_note := goodIn_r _ [38, 39, 40, 85, 86, 87, 88, 89] (by decide +kernel) (by decide +kernel)
set_option maxRecDepth 20000 in
theorem gX2_widened_X2_note : GoodIn wsX2_widened (wsV RX2 72 RX2 yX2_note wsX2_note) := goodIn_app (goodIn_of _ (by decide +kernel)) ggX2_widened_X2_note
set_option maxRecDepth 20000 in
theorem ggX2_widened_X0_init : GoodIn wsX2_widened wsX0_init := goodIn_r _ [43, 44, 45, 46, 47, 48, 49, 50, 51, 52, 20, 9, 21, 53, 54, 55, 56, 81, 82, 83, 84] (by decide +kernel) (by decide +kernel)
set_option maxRecDepth 20000 in
theorem gX2_widened_X0_init : GoodIn wsX2_widened (wsX0_init) := ggX2_widened_X0_init
set_option maxRecDepth 20000 in
theorem ggX2_widened_X0_takeWidened : GoodIn wsX2_widened wsX0_takeWidened := goodIn_r _ [60, 48, 47, 55, 9, 56, 61, 62, 63, 4, 64, 52, 65, 66, 67, 68, 69, 70, 71, 72, 50, 73, 74, 75, 76, 81, 82, 83, 84] (by decide +kernel) (by decide +kernel)
set_option maxRecDepth 20000 in
theorem gX2_widened_X0_takeWidened : GoodIn wsX2_widened (wsV RX2 135 RX0 yX0_takeWidened wsX0_takeWidened) := goodIn_app (goodIn_of _ (by decide +kernel)) ggX2_widened_X0_takeWidened
set_option maxRecDepth 20000 in
theorem ggX2_widened_X2_addColumn : GoodIn wsX2_widened wsX2_addColumn := goodIn_r _ [80, 28, 13, 85, 86, 87, 88, 89] (by decide +kernel) (by decide +kernel)
set_option maxRecDepth 20000 in
theorem gX2_widened_X2_addColumn : GoodIn wsX2_widened (wsV RX2 58 RX2 yX2_addColumn wsX2_addColumn) := goodIn_app (goodIn_of _ (by decide +kernel)) ggX2_widened_X2_addColumn
theorem dX2_widened_0 : decode cX2_widened 0 = .ok (.aload_n 0, 1) := by decide +kernel
theorem dX2_widened_1 : decode cX2_widened 1 = .ok (.iload_n 1, 1) := by decide +kernel
theorem dX2_widened_2 : decode cX2_widened 2 = .ok (.invokevirtual 62, 3) := by decide +kernel
theorem dX2_widened_5 : decode cX2_widened 5 = .ok (.astore_n 3, 1) := by decide +kernel
theorem dX2_widened_6 : decode cX2_widened 6 = .ok (.iload_n 2, 1) := by decide +kernel
theorem dX2_widened_7 : decode cX2_widened 7 = .ok (.invokestatic 107, 3) := by decide +kernel
theorem dX2_widened_10 : decode cX2_widened 10 = .ok (.aload_n 0, 1) := by decide +kernel
theorem dX2_widened_11 : decode cX2_widened 11 = .ok (.invokevirtual 52, 3) := by decide +kernel
theorem dX2_widened_14 : decode cX2_widened 14 = .ok (.aload_n 3, 1) := by decide +kernel
theorem dX2_widened_15 : decode cX2_widened 15 = .ok (.invokestatic 69, 3) := by decide +kernel
theorem dX2_widened_18 : decode cX2_widened 18 = .ok (.istore 4, 2) := by decide +kernel
theorem dX2_widened_20 : decode cX2_widened 20 = .ok (.iload 4, 2) := by decide +kernel
theorem dX2_widened_22 : decode cX2_widened 22 = .ok (.ifCond .ne 17, 3) := by decide +kernel
theorem dX2_widened_25 : decode cX2_widened 25 = .ok (.aload_n 3, 1) := by decide +kernel
theorem dX2_widened_26 : decode cX2_widened 26 = .ok (.getfield 66, 3) := by decide +kernel
theorem dX2_widened_29 : decode cX2_widened 29 = .ok (.iload_n 2, 1) := by decide +kernel
theorem dX2_widened_30 : decode cX2_widened 30 = .ok (.invokestatic 131, 3) := by decide +kernel
theorem dX2_widened_33 : decode cX2_widened 33 = .ok (.ifCond .ne 6, 3) := by decide +kernel
theorem dX2_widened_36 : decode cX2_widened 36 = .ok (.iconst 4, 1) := by decide +kernel
