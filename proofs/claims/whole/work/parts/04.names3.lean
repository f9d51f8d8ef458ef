set_option maxRecDepth 20000 in
theorem ggX0_init_X2_holdsCells : GoodIn wsX0_init wsX2_holdsCells := goodIn_r _ [12] (by decide +kernel) (by decide +kernel)
set_option maxRecDepth 20000 in
theorem gX0_init_X2_holdsCells_n9 : GoodIn wsX0_init (wsX2_holdsCells) := ggX0_init_X2_holdsCells
set_option maxRecDepth 20000 in
theorem ggX0_init_X2_isLength : GoodIn wsX0_init wsX2_isLength := goodIn_r _ [14] (by decide +kernel) (by decide +kernel)
set_option maxRecDepth 20000 in
theorem gX0_init_X2_isLength_n13 : GoodIn wsX0_init (wsX2_isLength) := ggX0_init_X2_isLength
set_option maxRecDepth 20000 in
theorem ggX0_init_X2_isFloating : GoodIn wsX0_init wsX2_isFloating := goodIn_r _ [16] (by decide +kernel) (by decide +kernel)
set_option maxRecDepth 20000 in
theorem gX0_init_X2_isFloating_n25 : GoodIn wsX0_init (wsX2_isFloating) := ggX0_init_X2_isFloating
theorem dX0_init_0 : decode cX0_init 0 = .ok (.aload_n 0, 1) := by decide +kernel
theorem dX0_init_1 : decode cX0_init 1 = .ok (.invokespecial 3, 3) := by decide +kernel
theorem dX0_init_4 : decode cX0_init 4 = .ok (.iload_n 1, 1) := by decide +kernel
theorem dX0_init_5 : decode cX0_init 5 = .ok (.invokestatic 9, 3) := by decide +kernel
theorem dX0_init_8 : decode cX0_init 8 = .ok (.ifCond .eq 14, 3) := by decide +kernel
theorem dX0_init_11 : decode cX0_init 11 = .ok (.iload_n 2, 1) := by decide +kernel
theorem dX0_init_12 : decode cX0_init 12 = .ok (.invokestatic 13, 3) := by decide +kernel
theorem dX0_init_15 : decode cX0_init 15 = .ok (.ifCond .eq 7, 3) := by decide +kernel
theorem dX0_init_18 : decode cX0_init 18 = .ok (.iload_n 2, 1) := by decide +kernel
theorem dX0_init_19 : decode cX0_init 19 = .ok (.goto 4, 3) := by decide +kernel
theorem dX0_init_22 : decode cX0_init 22 = .ok (.iconst 0, 1) := by decide +kernel
theorem dX0_init_23 : decode cX0_init 23 = .ok (.istore_n 3, 1) := by decide +kernel
theorem dX0_init_24 : decode cX0_init 24 = .ok (.aload_n 0, 1) := by decide +kernel
theorem dX0_init_25 : decode cX0_init 25 = .ok (.iload_n 1, 1) := by decide +kernel
theorem dX0_init_26 : decode cX0_init 26 = .ok (.putfield 16, 3) := by decide +kernel
theorem dX0_init_29 : decode cX0_init 29 = .ok (.aload_n 0, 1) := by decide +kernel
theorem dX0_init_30 : decode cX0_init 30 = .ok (.iload_n 1, 1) := by decide +kernel
theorem dX0_init_31 : decode cX0_init 31 = .ok (.invokestatic 9, 3) := by decide +kernel
theorem dX0_init_34 : decode cX0_init 34 = .ok (.ifCond .eq 7, 3) := by decide +kernel
theorem dX0_init_37 : decode cX0_init 37 = .ok (.iload_n 3, 1) := by decide +kernel
theorem dX0_init_38 : decode cX0_init 38 = .ok (.goto 4, 3) := by decide +kernel
theorem dX0_init_41 : decode cX0_init 41 = .ok (.iconst (-1), 1) := by decide +kernel
theorem dX0_init_42 : decode cX0_init 42 = .ok (.putfield 22, 3) := by decide +kernel
theorem dX0_init_45 : decode cX0_init 45 = .ok (.aload_n 0, 1) := by decide +kernel
theorem dX0_init_46 : decode cX0_init 46 = .ok (.iload_n 1, 1) := by decide +kernel
theorem dX0_init_47 : decode cX0_init 47 = .ok (.invokestatic 25, 3) := by decide +kernel
theorem dX0_init_50 : decode cX0_init 50 = .ok (.ifCond .eq 7, 3) := by decide +kernel
theorem dX0_init_53 : decode cX0_init 53 = .ok (.iconst 0, 1) := by decide +kernel
theorem dX0_init_54 : decode cX0_init 54 = .ok (.goto 4, 3) := by decide +kernel
theorem dX0_init_57 : decode cX0_init 57 = .ok (.iload_n 3, 1) := by decide +kernel
theorem dX0_init_58 : decode cX0_init 58 = .ok (.newarray .long, 2) := by decide +kernel
theorem dX0_init_60 : decode cX0_init 60 = .ok (.putfield 28, 3) := by decide +kernel
theorem dX0_init_63 : decode cX0_init 63 = .ok (.aload_n 0, 1) := by decide +kernel
theorem dX0_init_64 : decode cX0_init 64 = .ok (.iload_n 1, 1) := by decide +kernel
theorem dX0_init_65 : decode cX0_init 65 = .ok (.invokestatic 25, 3) := by decide +kernel
theorem dX0_init_68 : decode cX0_init 68 = .ok (.ifCond .eq 7, 3) := by decide +kernel
theorem dX0_init_71 : decode cX0_init 71 = .ok (.iload_n 3, 1) := by decide +kernel
theorem dX0_init_72 : decode cX0_init 72 = .ok (.goto 4, 3) := by decide +kernel
theorem dX0_init_75 : decode cX0_init 75 = .ok (.iconst 0, 1) := by decide +kernel
theorem dX0_init_76 : decode cX0_init 76 = .ok (.newarray .double, 2) := by decide +kernel
theorem dX0_init_78 : decode cX0_init 78 = .ok (.putfield 32, 3) := by decide +kernel
theorem dX0_init_81 : decode cX0_init 81 = .ok (.return_, 1) := by decide +kernel
theorem dX0_wholeAt_0 : decode cX0_wholeAt 0 = .ok (.iload_n 1, 1) := by decide +kernel
theorem dX0_wholeAt_1 : decode cX0_wholeAt 1 = .ok (.ifCond .lt 21, 3) := by decide +kernel
theorem dX0_wholeAt_4 : decode cX0_wholeAt 4 = .ok (.iload_n 1, 1) := by decide +kernel
theorem dX0_wholeAt_5 : decode cX0_wholeAt 5 = .ok (.aload_n 0, 1) := by decide +kernel
theorem dX0_wholeAt_6 : decode cX0_wholeAt 6 = .ok (.getfield 28, 3) := by decide +kernel
theorem dX0_wholeAt_9 : decode cX0_wholeAt 9 = .ok (.arraylength, 1) := by decide +kernel
theorem dX0_wholeAt_10 : decode cX0_wholeAt 10 = .ok (.if_icmp .ge 12, 3) := by decide +kernel
theorem dX0_wholeAt_13 : decode cX0_wholeAt 13 = .ok (.aload_n 0, 1) := by decide +kernel
theorem dX0_wholeAt_14 : decode cX0_wholeAt 14 = .ok (.getfield 28, 3) := by decide +kernel
theorem dX0_wholeAt_17 : decode cX0_wholeAt 17 = .ok (.iload_n 1, 1) := by decide +kernel
theorem dX0_wholeAt_18 : decode cX0_wholeAt 18 = .ok (.laload, 1) := by decide +kernel
theorem dX0_wholeAt_19 : decode cX0_wholeAt 19 = .ok (.goto 4, 3) := by decide +kernel
theorem dX0_wholeAt_22 : decode cX0_wholeAt 22 = .ok (.lconst 0, 1) := by decide +kernel
theorem dX0_wholeAt_23 : decode cX0_wholeAt 23 = .ok (.lreturn, 1) := by decide +kernel
theorem dX0_realAt_0 : decode cX0_realAt 0 = .ok (.iload_n 1, 1) := by decide +kernel
theorem dX0_realAt_1 : decode cX0_realAt 1 = .ok (.ifCond .lt 21, 3) := by decide +kernel
theorem dX0_realAt_4 : decode cX0_realAt 4 = .ok (.iload_n 1, 1) := by decide +kernel
theorem dX0_realAt_5 : decode cX0_realAt 5 = .ok (.aload_n 0, 1) := by decide +kernel
theorem dX0_realAt_6 : decode cX0_realAt 6 = .ok (.getfield 32, 3) := by decide +kernel
theorem dX0_realAt_9 : decode cX0_realAt 9 = .ok (.arraylength, 1) := by decide +kernel
theorem dX0_realAt_10 : decode cX0_realAt 10 = .ok (.if_icmp .ge 12, 3) := by decide +kernel
theorem dX0_realAt_13 : decode cX0_realAt 13 = .ok (.aload_n 0, 1) := by decide +kernel
theorem dX0_realAt_14 : decode cX0_realAt 14 = .ok (.getfield 32, 3) := by decide +kernel
theorem dX0_realAt_17 : decode cX0_realAt 17 = .ok (.iload_n 1, 1) := by decide +kernel
theorem dX0_realAt_18 : decode cX0_realAt 18 = .ok (.daload, 1) := by decide +kernel
theorem dX0_realAt_19 : decode cX0_realAt 19 = .ok (.goto 4, 3) := by decide +kernel
theorem dX0_realAt_22 : decode cX0_realAt 22 = .ok (.dconst 0, 1) := by decide +kernel
theorem dX0_realAt_23 : decode cX0_realAt 23 = .ok (.dreturn, 1) := by decide +kernel
set_option maxRecDepth 20000 in
theorem ggX0_doubleAt_X2_isFloating : GoodIn wsX0_doubleAt wsX2_isFloating := goodIn_r _ [4] (by decide +kernel) (by decide +kernel)
set_option maxRecDepth 20000 in
theorem gX0_doubleAt_X2_isFloating_n25 : GoodIn wsX0_doubleAt (wsX2_isFloating) := ggX0_doubleAt_X2_isFloating
set_option maxRecDepth 20000 in
theorem ggX0_doubleAt_X0_realAt : GoodIn wsX0_doubleAt wsX0_realAt := goodIn_r _ [9, 10, 16, 17, 18, 19] (by decide +kernel) (by decide +kernel)
set_option maxRecDepth 20000 in
theorem gX0_doubleAt_X0_realAt : GoodIn wsX0_doubleAt (wsV RX0 36 RX0 yX0_realAt wsX0_realAt) := goodIn_app (goodIn_of _ (by decide +kernel)) ggX0_doubleAt_X0_realAt
set_option maxRecDepth 20000 in
theorem ggX0_doubleAt_X0_wholeAt : GoodIn wsX0_doubleAt wsX0_wholeAt := goodIn_r _ [14, 15, 16, 17, 18, 19] (by decide +kernel) (by decide +kernel)
set_option maxRecDepth 20000 in
theorem gX0_doubleAt_X0_wholeAt : GoodIn wsX0_doubleAt (wsV RX0 40 RX0 yX0_wholeAt wsX0_wholeAt) := goodIn_app (goodIn_of _ (by decide +kernel)) ggX0_doubleAt_X0_wholeAt
theorem dX0_doubleAt_0 : decode cX0_doubleAt 0 = .ok (.aload_n 0, 1) := by decide +kernel
theorem dX0_doubleAt_1 : decode cX0_doubleAt 1 = .ok (.getfield 16, 3) := by decide +kernel
theorem dX0_doubleAt_4 : decode cX0_doubleAt 4 = .ok (.invokestatic 25, 3) := by decide +kernel
theorem dX0_doubleAt_7 : decode cX0_doubleAt 7 = .ok (.ifCond .eq 11, 3) := by decide +kernel
theorem dX0_doubleAt_10 : decode cX0_doubleAt 10 = .ok (.aload_n 0, 1) := by decide +kernel
theorem dX0_doubleAt_11 : decode cX0_doubleAt 11 = .ok (.iload_n 1, 1) := by decide +kernel
theorem dX0_doubleAt_12 : decode cX0_doubleAt 12 = .ok (.invokevirtual 36, 3) := by decide +kernel
theorem dX0_doubleAt_15 : decode cX0_doubleAt 15 = .ok (.goto 9, 3) := by decide +kernel
theorem dX0_doubleAt_18 : decode cX0_doubleAt 18 = .ok (.aload_n 0, 1) := by decide +kernel
theorem dX0_doubleAt_19 : decode cX0_doubleAt 19 = .ok (.iload_n 1, 1) := by decide +kernel
theorem dX0_doubleAt_20 : decode cX0_doubleAt 20 = .ok (.invokevirtual 40, 3) := by decide +kernel
theorem dX0_doubleAt_23 : decode cX0_doubleAt 23 = .ok (.l2d, 1) := by decide +kernel
theorem dX0_doubleAt_24 : decode cX0_doubleAt 24 = .ok (.dreturn, 1) := by decide +kernel
set_option maxRecDepth 20000 in
theorem ggX0_floatAt_X2_isFloating : GoodIn wsX0_floatAt wsX2_isFloating := goodIn_r _ [4] (by decide +kernel) (by decide +kernel)
set_option maxRecDepth 20000 in
theorem gX0_floatAt_X2_isFloating_n25 : GoodIn wsX0_floatAt (wsX2_isFloating) := ggX0_floatAt_X2_isFloating
set_option maxRecDepth 20000 in
theorem ggX0_floatAt_X0_realAt : GoodIn wsX0_floatAt wsX0_realAt := goodIn_r _ [9, 10, 22, 23, 24, 25] (by decide +kernel) (by decide +kernel)
set_option maxRecDepth 20000 in
theorem gX0_floatAt_X0_realAt : GoodIn wsX0_floatAt (wsV RX0 36 RX0 yX0_realAt wsX0_realAt) := goodIn_app (goodIn_of _ (by decide +kernel)) ggX0_floatAt_X0_realAt
set_option maxRecDepth 20000 in
theorem ggX0_floatAt_X2_floatOf : GoodIn wsX0_floatAt wsX2_floatOf := goodIn_r _ [12, 13, 14, 3, 15, 16] (by decide +kernel) (by decide +kernel)
set_option maxRecDepth 20000 in
theorem gX0_floatAt_X2_floatOf_n44 : GoodIn wsX0_floatAt (wsX2_floatOf) := ggX0_floatAt_X2_floatOf
set_option maxRecDepth 20000 in
theorem ggX0_floatAt_X0_wholeAt : GoodIn wsX0_floatAt wsX0_wholeAt := goodIn_r _ [20, 21, 22, 23, 24, 25] (by decide +kernel) (by decide +kernel)
set_option maxRecDepth 20000 in
theorem gX0_floatAt_X0_wholeAt : GoodIn wsX0_floatAt (wsV RX0 40 RX0 yX0_wholeAt wsX0_wholeAt) := goodIn_app (goodIn_of _ (by decide +kernel)) ggX0_floatAt_X0_wholeAt
theorem dX0_floatAt_0 : decode cX0_floatAt 0 = .ok (.aload_n 0, 1) := by decide +kernel
theorem dX0_floatAt_1 : decode cX0_floatAt 1 = .ok (.getfield 16, 3) := by decide +kernel
theorem dX0_floatAt_4 : decode cX0_floatAt 4 = .ok (.invokestatic 25, 3) := by decide +kernel
theorem dX0_floatAt_7 : decode cX0_floatAt 7 = .ok (.ifCond .eq 14, 3) := by decide +kernel
theorem dX0_floatAt_10 : decode cX0_floatAt 10 = .ok (.aload_n 0, 1) := by decide +kernel
theorem dX0_floatAt_11 : decode cX0_floatAt 11 = .ok (.iload_n 1, 1) := by decide +kernel
theorem dX0_floatAt_12 : decode cX0_floatAt 12 = .ok (.invokevirtual 36, 3) := by decide +kernel
theorem dX0_floatAt_15 : decode cX0_floatAt 15 = .ok (.invokestatic 44, 3) := by decide +kernel
theorem dX0_floatAt_18 : decode cX0_floatAt 18 = .ok (.goto 9, 3) := by decide +kernel
theorem dX0_floatAt_21 : decode cX0_floatAt 21 = .ok (.aload_n 0, 1) := by decide +kernel
theorem dX0_floatAt_22 : decode cX0_floatAt 22 = .ok (.iload_n 1, 1) := by decide +kernel
theorem dX0_floatAt_23 : decode cX0_floatAt 23 = .ok (.invokevirtual 40, 3) := by decide +kernel
theorem dX0_floatAt_26 : decode cX0_floatAt 26 = .ok (.l2f, 1) := by decide +kernel
theorem dX0_floatAt_27 : decode cX0_floatAt 27 = .ok (.freturn, 1) := by decide +kernel
set_option maxRecDepth 20000 in
theorem ggX0_putWhole_X0_putReal : GoodIn wsX0_putWhole wsX0_putReal := goodIn_r _ [7, 8, 9, 10, 11, 12] (by decide +kernel) (by decide +kernel)
set_option maxRecDepth 20000 in
theorem gX0_putWhole_X0_putReal : GoodIn wsX0_putWhole (wsV RX0 48 RX0 yX0_putReal wsX0_putReal) := goodIn_app (goodIn_of _ (by decide +kernel)) ggX0_putWhole_X0_putReal
theorem dX0_putWhole_0 : decode cX0_putWhole 0 = .ok (.aload_n 0, 1) := by decide +kernel
theorem dX0_putWhole_1 : decode cX0_putWhole 1 = .ok (.getfield 16, 3) := by decide +kernel
theorem dX0_putWhole_4 : decode cX0_putWhole 4 = .ok (.bipush 7, 2) := by decide +kernel
theorem dX0_putWhole_6 : decode cX0_putWhole 6 = .ok (.if_icmp .ne 14, 3) := by decide +kernel
theorem dX0_putWhole_9 : decode cX0_putWhole 9 = .ok (.aload_n 0, 1) := by decide +kernel
theorem dX0_putWhole_10 : decode cX0_putWhole 10 = .ok (.iload_n 1, 1) := by decide +kernel
theorem dX0_putWhole_11 : decode cX0_putWhole 11 = .ok (.lload_n 2, 1) := by decide +kernel
theorem dX0_putWhole_12 : decode cX0_putWhole 12 = .ok (.l2f, 1) := by decide +kernel
theorem dX0_putWhole_13 : decode cX0_putWhole 13 = .ok (.f2d, 1) := by decide +kernel
theorem dX0_putWhole_14 : decode cX0_putWhole 14 = .ok (.invokevirtual 48, 3) := by decide +kernel
theorem dX0_putWhole_17 : decode cX0_putWhole 17 = .ok (.goto 42, 3) := by decide +kernel
theorem dX0_putWhole_20 : decode cX0_putWhole 20 = .ok (.aload_n 0, 1) := by decide +kernel
theorem dX0_putWhole_21 : decode cX0_putWhole 21 = .ok (.getfield 16, 3) := by decide +kernel
theorem dX0_putWhole_24 : decode cX0_putWhole 24 = .ok (.bipush 8, 2) := by decide +kernel
theorem dX0_putWhole_26 : decode cX0_putWhole 26 = .ok (.if_icmp .ne 13, 3) := by decide +kernel
theorem dX0_putWhole_29 : decode cX0_putWhole 29 = .ok (.aload_n 0, 1) := by decide +kernel
theorem dX0_putWhole_30 : decode cX0_putWhole 30 = .ok (.iload_n 1, 1) := by decide +kernel
theorem dX0_putWhole_31 : decode cX0_putWhole 31 = .ok (.lload_n 2, 1) := by decide +kernel
theorem dX0_putWhole_32 : decode cX0_putWhole 32 = .ok (.l2d, 1) := by decide +kernel
theorem dX0_putWhole_33 : decode cX0_putWhole 33 = .ok (.invokevirtual 48, 3) := by decide +kernel
theorem dX0_putWhole_36 : decode cX0_putWhole 36 = .ok (.goto 23, 3) := by decide +kernel
theorem dX0_putWhole_39 : decode cX0_putWhole 39 = .ok (.iload_n 1, 1) := by decide +kernel
theorem dX0_putWhole_40 : decode cX0_putWhole 40 = .ok (.ifCond .lt 19, 3) := by decide +kernel
theorem dX0_putWhole_43 : decode cX0_putWhole 43 = .ok (.iload_n 1, 1) := by decide +kernel
theorem dX0_putWhole_44 : decode cX0_putWhole 44 = .ok (.aload_n 0, 1) := by decide +kernel
theorem dX0_putWhole_45 : decode cX0_putWhole 45 = .ok (.getfield 28, 3) := by decide +kernel
theorem dX0_putWhole_48 : decode cX0_putWhole 48 = .ok (.arraylength, 1) := by decide +kernel
theorem dX0_putWhole_49 : decode cX0_putWhole 49 = .ok (.if_icmp .ge 10, 3) := by decide +kernel
theorem dX0_putWhole_52 : decode cX0_putWhole 52 = .ok (.aload_n 0, 1) := by decide +kernel
theorem dX0_putWhole_53 : decode cX0_putWhole 53 = .ok (.getfield 28, 3) := by decide +kernel
theorem dX0_putWhole_56 : decode cX0_putWhole 56 = .ok (.iload_n 1, 1) := by decide +kernel
theorem dX0_putWhole_57 : decode cX0_putWhole 57 = .ok (.lload_n 2, 1) := by decide +kernel
theorem dX0_putWhole_58 : decode cX0_putWhole 58 = .ok (.lastore, 1) := by decide +kernel
theorem dX0_putWhole_59 : decode cX0_putWhole 59 = .ok (.return_, 1) := by decide +kernel
theorem dX0_putReal_0 : decode cX0_putReal 0 = .ok (.iload_n 1, 1) := by decide +kernel
theorem dX0_putReal_1 : decode cX0_putReal 1 = .ok (.ifCond .lt 19, 3) := by decide +kernel
theorem dX0_putReal_4 : decode cX0_putReal 4 = .ok (.iload_n 1, 1) := by decide +kernel
theorem dX0_putReal_5 : decode cX0_putReal 5 = .ok (.aload_n 0, 1) := by decide +kernel
theorem dX0_putReal_6 : decode cX0_putReal 6 = .ok (.getfield 32, 3) := by decide +kernel
theorem dX0_putReal_9 : decode cX0_putReal 9 = .ok (.arraylength, 1) := by decide +kernel
theorem dX0_putReal_10 : decode cX0_putReal 10 = .ok (.if_icmp .ge 10, 3) := by decide +kernel
theorem dX0_putReal_13 : decode cX0_putReal 13 = .ok (.aload_n 0, 1) := by decide +kernel
theorem dX0_putReal_14 : decode cX0_putReal 14 = .ok (.getfield 32, 3) := by decide +kernel
theorem dX0_putReal_17 : decode cX0_putReal 17 = .ok (.iload_n 1, 1) := by decide +kernel
theorem dX0_putReal_18 : decode cX0_putReal 18 = .ok (.dload_n 2, 1) := by decide +kernel
theorem dX0_putReal_19 : decode cX0_putReal 19 = .ok (.dastore, 1) := by decide +kernel
theorem dX0_putReal_20 : decode cX0_putReal 20 = .ok (.return_, 1) := by decide +kernel
set_option maxRecDepth 20000 in
theorem ggX0_takeCells_X2_isPart : GoodIn wsX0_takeCells wsX2_isPart := goodIn_r _ [9] (by decide +kernel) (by decide +kernel)
set_option maxRecDepth 20000 in
theorem gX0_takeCells_X2_isPart_n52 : GoodIn wsX0_takeCells (wsX2_isPart) := ggX0_takeCells_X2_isPart
theorem dX0_takeCells_0 : decode cX0_takeCells 0 = .ok (.iload_n 2, 1) := by decide +kernel
theorem dX0_takeCells_1 : decode cX0_takeCells 1 = .ok (.iload 4, 2) := by decide +kernel
theorem dX0_takeCells_3 : decode cX0_takeCells 3 = .ok (.aload_n 1, 1) := by decide +kernel
theorem dX0_takeCells_4 : decode cX0_takeCells 4 = .ok (.getfield 28, 3) := by decide +kernel
theorem dX0_takeCells_7 : decode cX0_takeCells 7 = .ok (.arraylength, 1) := by decide +kernel
theorem dX0_takeCells_8 : decode cX0_takeCells 8 = .ok (.invokestatic 52, 3) := by decide +kernel
theorem dX0_takeCells_11 : decode cX0_takeCells 11 = .ok (.ifCond .eq 32, 3) := by decide +kernel
theorem dX0_takeCells_14 : decode cX0_takeCells 14 = .ok (.iload_n 3, 1) := by decide +kernel
theorem dX0_takeCells_15 : decode cX0_takeCells 15 = .ok (.iload 4, 2) := by decide +kernel
theorem dX0_takeCells_17 : decode cX0_takeCells 17 = .ok (.aload_n 0, 1) := by decide +kernel
theorem dX0_takeCells_18 : decode cX0_takeCells 18 = .ok (.getfield 28, 3) := by decide +kernel
theorem dX0_takeCells_21 : decode cX0_takeCells 21 = .ok (.arraylength, 1) := by decide +kernel
theorem dX0_takeCells_22 : decode cX0_takeCells 22 = .ok (.invokestatic 52, 3) := by decide +kernel
theorem dX0_takeCells_25 : decode cX0_takeCells 25 = .ok (.ifCond .eq 18, 3) := by decide +kernel
theorem dX0_takeCells_28 : decode cX0_takeCells 28 = .ok (.aload_n 1, 1) := by decide +kernel
theorem dX0_takeCells_29 : decode cX0_takeCells 29 = .ok (.getfield 28, 3) := by decide +kernel
theorem dX0_takeCells_32 : decode cX0_takeCells 32 = .ok (.iload_n 2, 1) := by decide +kernel
theorem dX0_takeCells_33 : decode cX0_takeCells 33 = .ok (.aload_n 0, 1) := by decide +kernel
theorem dX0_takeCells_34 : decode cX0_takeCells 34 = .ok (.getfield 28, 3) := by decide +kernel
theorem dX0_takeCells_37 : decode cX0_takeCells 37 = .ok (.iload_n 3, 1) := by decide +kernel
theorem dX0_takeCells_38 : decode cX0_takeCells 38 = .ok (.iload 4, 2) := by decide +kernel
theorem dX0_takeCells_40 : decode cX0_takeCells 40 = .ok (.invokestatic 56, 3) := by decide +kernel
theorem dX0_takeCells_43 : decode cX0_takeCells 43 = .ok (.iload_n 2, 1) := by decide +kernel
theorem dX0_takeCells_44 : decode cX0_takeCells 44 = .ok (.iload 4, 2) := by decide +kernel
theorem dX0_takeCells_46 : decode cX0_takeCells 46 = .ok (.aload_n 1, 1) := by decide +kernel
theorem dX0_takeCells_47 : decode cX0_takeCells 47 = .ok (.getfield 32, 3) := by decide +kernel
theorem dX0_takeCells_50 : decode cX0_takeCells 50 = .ok (.arraylength, 1) := by decide +kernel
theorem dX0_takeCells_51 : decode cX0_takeCells 51 = .ok (.invokestatic 52, 3) := by decide +kernel
theorem dX0_takeCells_54 : decode cX0_takeCells 54 = .ok (.ifCond .eq 32, 3) := by decide +kernel
theorem dX0_takeCells_57 : decode cX0_takeCells 57 = .ok (.iload_n 3, 1) := by decide +kernel
theorem dX0_takeCells_58 : decode cX0_takeCells 58 = .ok (.iload 4, 2) := by decide +kernel
theorem dX0_takeCells_60 : decode cX0_takeCells 60 = .ok (.aload_n 0, 1) := by decide +kernel
theorem dX0_takeCells_61 : decode cX0_takeCells 61 = .ok (.getfield 32, 3) := by decide +kernel
theorem dX0_takeCells_64 : decode cX0_takeCells 64 = .ok (.arraylength, 1) := by decide +kernel
theorem dX0_takeCells_65 : decode cX0_takeCells 65 = .ok (.invokestatic 52, 3) := by decide +kernel
theorem dX0_takeCells_68 : decode cX0_takeCells 68 = .ok (.ifCond .eq 18, 3) := by decide +kernel
theorem dX0_takeCells_71 : decode cX0_takeCells 71 = .ok (.aload_n 1, 1) := by decide +kernel
theorem dX0_takeCells_72 : decode cX0_takeCells 72 = .ok (.getfield 32, 3) := by decide +kernel
theorem dX0_takeCells_75 : decode cX0_takeCells 75 = .ok (.iload_n 2, 1) := by decide +kernel
theorem dX0_takeCells_76 : decode cX0_takeCells 76 = .ok (.aload_n 0, 1) := by decide +kernel
theorem dX0_takeCells_77 : decode cX0_takeCells 77 = .ok (.getfield 32, 3) := by decide +kernel
theorem dX0_takeCells_80 : decode cX0_takeCells 80 = .ok (.iload_n 3, 1) := by decide +kernel
theorem dX0_takeCells_81 : decode cX0_takeCells 81 = .ok (.iload 4, 2) := by decide +kernel
theorem dX0_takeCells_83 : decode cX0_takeCells 83 = .ok (.invokestatic 56, 3) := by decide +kernel
theorem dX0_takeCells_86 : decode cX0_takeCells 86 = .ok (.return_, 1) := by decide +kernel
set_option maxRecDepth 20000 in
theorem ggX0_takeWidened_X2_isFloating : GoodIn wsX0_takeWidened wsX2_isFloating := goodIn_r _ [5] (by decide +kernel) (by decide +kernel)
set_option maxRecDepth 20000 in
theorem gX0_takeWidened_X2_isFloating_n25 : GoodIn wsX0_takeWidened (wsX2_isFloating) := ggX0_takeWidened_X2_isFloating
set_option maxRecDepth 20000 in
theorem ggX0_takeWidened_X0_realAt : GoodIn wsX0_takeWidened wsX0_realAt := goodIn_r _ [10, 11, 25, 26, 27, 28] (by decide +kernel) (by decide +kernel)
set_option maxRecDepth 20000 in
theorem gX0_takeWidened_X0_realAt : GoodIn wsX0_takeWidened (wsV RX0 36 RX0 yX0_realAt wsX0_realAt) := goodIn_app (goodIn_of _ (by decide +kernel)) ggX0_takeWidened_X0_realAt
set_option maxRecDepth 20000 in
theorem ggX0_takeWidened_X0_putReal : GoodIn wsX0_takeWidened wsX0_putReal := goodIn_r _ [15, 11, 25, 26, 27, 28] (by decide +kernel) (by decide +kernel)
set_option maxRecDepth 20000 in
theorem gX0_takeWidened_X0_putReal : GoodIn wsX0_takeWidened (wsV RX0 48 RX0 yX0_putReal wsX0_putReal) := goodIn_app (goodIn_of _ (by decide +kernel)) ggX0_takeWidened_X0_putReal
set_option maxRecDepth 20000 in
theorem ggX0_takeWidened_X0_wholeAt : GoodIn wsX0_takeWidened wsX0_wholeAt := goodIn_r _ [19, 20, 25, 26, 27, 28] (by decide +kernel) (by decide +kernel)
set_option maxRecDepth 20000 in
theorem gX0_takeWidened_X0_wholeAt : GoodIn wsX0_takeWidened (wsV RX0 40 RX0 yX0_wholeAt wsX0_wholeAt) := goodIn_app (goodIn_of _ (by decide +kernel)) ggX0_takeWidened_X0_wholeAt
set_option maxRecDepth 20000 in
theorem ggX0_takeWidened_X0_putWhole : GoodIn wsX0_takeWidened wsX0_putWhole := goodIn_r _ [24, 2, 20, 12, 13, 14, 9, 15, 11, 25, 26, 27, 28] (by decide +kernel) (by decide +kernel)
set_option maxRecDepth 20000 in
theorem gX0_takeWidened_X0_putWhole : GoodIn wsX0_takeWidened (wsV RX0 62 RX0 yX0_putWhole wsX0_putWhole) := goodIn_app (goodIn_of _ (by decide +kernel)) ggX0_takeWidened_X0_putWhole
theorem dX0_takeWidened_0 : decode cX0_takeWidened 0 = .ok (.iconst 0, 1) := by decide +kernel
theorem dX0_takeWidened_1 : decode cX0_takeWidened 1 = .ok (.istore_n 2, 1) := by decide +kernel
theorem dX0_takeWidened_2 : decode cX0_takeWidened 2 = .ok (.iload_n 2, 1) := by decide +kernel
theorem dX0_takeWidened_3 : decode cX0_takeWidened 3 = .ok (.aload_n 1, 1) := by decide +kernel
theorem dX0_takeWidened_4 : decode cX0_takeWidened 4 = .ok (.getfield 22, 3) := by decide +kernel
theorem dX0_takeWidened_7 : decode cX0_takeWidened 7 = .ok (.if_icmp .ge 42, 3) := by decide +kernel
theorem dX0_takeWidened_10 : decode cX0_takeWidened 10 = .ok (.aload_n 1, 1) := by decide +kernel
theorem dX0_takeWidened_11 : decode cX0_takeWidened 11 = .ok (.getfield 16, 3) := by decide +kernel
theorem dX0_takeWidened_14 : decode cX0_takeWidened 14 = .ok (.invokestatic 25, 3) := by decide +kernel
theorem dX0_takeWidened_17 : decode cX0_takeWidened 17 = .ok (.ifCond .eq 16, 3) := by decide +kernel
theorem dX0_takeWidened_20 : decode cX0_takeWidened 20 = .ok (.aload_n 0, 1) := by decide +kernel
theorem dX0_takeWidened_21 : decode cX0_takeWidened 21 = .ok (.iload_n 2, 1) := by decide +kernel
theorem dX0_takeWidened_22 : decode cX0_takeWidened 22 = .ok (.aload_n 1, 1) := by decide +kernel
theorem dX0_takeWidened_23 : decode cX0_takeWidened 23 = .ok (.iload_n 2, 1) := by decide +kernel
theorem dX0_takeWidened_24 : decode cX0_takeWidened 24 = .ok (.invokevirtual 36, 3) := by decide +kernel
theorem dX0_takeWidened_27 : decode cX0_takeWidened 27 = .ok (.invokevirtual 48, 3) := by decide +kernel
theorem dX0_takeWidened_30 : decode cX0_takeWidened 30 = .ok (.goto 13, 3) := by decide +kernel
theorem dX0_takeWidened_33 : decode cX0_takeWidened 33 = .ok (.aload_n 0, 1) := by decide +kernel
theorem dX0_takeWidened_34 : decode cX0_takeWidened 34 = .ok (.iload_n 2, 1) := by decide +kernel
theorem dX0_takeWidened_35 : decode cX0_takeWidened 35 = .ok (.aload_n 1, 1) := by decide +kernel
theorem dX0_takeWidened_36 : decode cX0_takeWidened 36 = .ok (.iload_n 2, 1) := by decide +kernel
theorem dX0_takeWidened_37 : decode cX0_takeWidened 37 = .ok (.invokevirtual 40, 3) := by decide +kernel
theorem dX0_takeWidened_40 : decode cX0_takeWidened 40 = .ok (.invokevirtual 62, 3) := by decide +kernel
theorem dX0_takeWidened_43 : decode cX0_takeWidened 43 = .ok (.iinc 2 1, 3) := by decide +kernel
theorem dX0_takeWidened_46 : decode cX0_takeWidened 46 = .ok (.goto (-44), 3) := by decide +kernel
theorem dX0_takeWidened_49 : decode cX0_takeWidened 49 = .ok (.return_, 1) := by decide +kernel
set_option maxRecDepth 20000 in
theorem ggX0_sum_X0_doubleAt : GoodIn wsX0_sum wsX0_doubleAt := goodIn_r _ [6, 7, 8, 9, 10, 11, 12, 13, 5, 14, 15, 16, 17, 18, 19, 20, 32, 33, 34, 35] (by decide +kernel) (by decide +kernel)
set_option maxRecDepth 20000 in
theorem gX0_sum_X0_doubleAt : GoodIn wsX0_sum (wsV RX0 66 RX0 yX0_doubleAt wsX0_doubleAt) := goodIn_app (goodIn_of _ (by decide +kernel)) ggX0_sum_X0_doubleAt
set_option maxRecDepth 20000 in
theorem ggX0_sum_X2_sumOf : GoodIn wsX0_sum wsX2_sumOf := goodIn_r _ [22, 23, 24, 9, 25, 26, 27, 28, 29, 30, 31] (by decide +kernel) (by decide +kernel)
set_option maxRecDepth 20000 in
theorem gX0_sum_X2_sumOf_n69 : GoodIn wsX0_sum (wsX2_sumOf) := ggX0_sum_X2_sumOf
theorem dX0_sum_0 : decode cX0_sum 0 = .ok (.dconst 0, 1) := by decide +kernel
theorem dX0_sum_1 : decode cX0_sum 1 = .ok (.dstore_n 1, 1) := by decide +kernel
theorem dX0_sum_2 : decode cX0_sum 2 = .ok (.iconst 0, 1) := by decide +kernel
theorem dX0_sum_3 : decode cX0_sum 3 = .ok (.istore_n 3, 1) := by decide +kernel
theorem dX0_sum_4 : decode cX0_sum 4 = .ok (.iload_n 3, 1) := by decide +kernel
theorem dX0_sum_5 : decode cX0_sum 5 = .ok (.aload_n 0, 1) := by decide +kernel
theorem dX0_sum_6 : decode cX0_sum 6 = .ok (.getfield 22, 3) := by decide +kernel
theorem dX0_sum_9 : decode cX0_sum 9 = .ok (.if_icmp .ge 19, 3) := by decide +kernel
theorem dX0_sum_12 : decode cX0_sum 12 = .ok (.dload_n 1, 1) := by decide +kernel
theorem dX0_sum_13 : decode cX0_sum 13 = .ok (.aload_n 0, 1) := by decide +kernel
theorem dX0_sum_14 : decode cX0_sum 14 = .ok (.iload_n 3, 1) := by decide +kernel
theorem dX0_sum_15 : decode cX0_sum 15 = .ok (.invokevirtual 66, 3) := by decide +kernel
theorem dX0_sum_18 : decode cX0_sum 18 = .ok (.invokestatic 69, 3) := by decide +kernel
theorem dX0_sum_21 : decode cX0_sum 21 = .ok (.dstore_n 1, 1) := by decide +kernel
theorem dX0_sum_22 : decode cX0_sum 22 = .ok (.iinc 3 1, 3) := by decide +kernel
theorem dX0_sum_25 : decode cX0_sum 25 = .ok (.goto (-21), 3) := by decide +kernel
theorem dX0_sum_28 : decode cX0_sum 28 = .ok (.dload_n 1, 1) := by decide +kernel
theorem dX0_sum_29 : decode cX0_sum 29 = .ok (.dreturn, 1) := by decide +kernel
theorem dX1_init_0 : decode cX1_init 0 = .ok (.aload_n 0, 1) := by decide +kernel
theorem dX1_init_1 : decode cX1_init 1 = .ok (.invokespecial 1, 3) := by decide +kernel
theorem dX1_init_4 : decode cX1_init 4 = .ok (.aload_n 0, 1) := by decide +kernel
theorem dX1_init_5 : decode cX1_init 5 = .ok (.bipush 10, 2) := by decide +kernel
theorem dX1_init_7 : decode cX1_init 7 = .ok (.newarray .double, 2) := by decide +kernel
theorem dX1_init_9 : decode cX1_init 9 = .ok (.putfield 9, 3) := by decide +kernel
theorem dX1_init_12 : decode cX1_init 12 = .ok (.ldc2_w 13, 3) := by decide +kernel
theorem dX1_init_15 : decode cX1_init 15 = .ok (.dstore_n 1, 1) := by decide +kernel
theorem dX1_init_16 : decode cX1_init 16 = .ok (.iconst 0, 1) := by decide +kernel
theorem dX1_init_17 : decode cX1_init 17 = .ok (.istore_n 3, 1) := by decide +kernel
theorem dX1_init_18 : decode cX1_init 18 = .ok (.iload_n 3, 1) := by decide +kernel
theorem dX1_init_19 : decode cX1_init 19 = .ok (.aload_n 0, 1) := by decide +kernel
theorem dX1_init_20 : decode cX1_init 20 = .ok (.getfield 9, 3) := by decide +kernel
theorem dX1_init_23 : decode cX1_init 23 = .ok (.arraylength, 1) := by decide +kernel
theorem dX1_init_24 : decode cX1_init 24 = .ok (.if_icmp .ge 20, 3) := by decide +kernel
theorem dX1_init_27 : decode cX1_init 27 = .ok (.aload_n 0, 1) := by decide +kernel
theorem dX1_init_28 : decode cX1_init 28 = .ok (.getfield 9, 3) := by decide +kernel
theorem dX1_init_31 : decode cX1_init 31 = .ok (.iload_n 3, 1) := by decide +kernel
theorem dX1_init_32 : decode cX1_init 32 = .ok (.dload_n 1, 1) := by decide +kernel
theorem dX1_init_33 : decode cX1_init 33 = .ok (.dastore, 1) := by decide +kernel
theorem dX1_init_34 : decode cX1_init 34 = .ok (.dload_n 1, 1) := by decide +kernel
theorem dX1_init_35 : decode cX1_init 35 = .ok (.dload_n 1, 1) := by decide +kernel
theorem dX1_init_36 : decode cX1_init 36 = .ok (.dmul, 1) := by decide +kernel
theorem dX1_init_37 : decode cX1_init 37 = .ok (.dstore_n 1, 1) := by decide +kernel
theorem dX1_init_38 : decode cX1_init 38 = .ok (.iinc 3 1, 3) := by decide +kernel
theorem dX1_init_41 : decode cX1_init 41 = .ok (.goto (-23), 3) := by decide +kernel
theorem dX1_init_44 : decode cX1_init 44 = .ok (.return_, 1) := by decide +kernel
set_option maxRecDepth 20000 in
theorem ggX1_of_X1_ofPositive : GoodIn wsX1_of wsX1_ofPositive := goodIn_r _ [7, 8, 9, 10, 11, 12, 13, 14, 15, 16, 17, 18, 6, 19, 20, 21, 22, 23, 24] (by decide +kernel) (by decide +kernel)
set_option maxRecDepth 20000 in
theorem gX1_of_X1_ofPositive : GoodIn wsX1_of (wsV RX1 19 RX1 yX1_ofPositive wsX1_ofPositive) := goodIn_app (goodIn_of _ (by decide +kernel)) ggX1_of_X1_ofPositive
theorem dX1_of_0 : decode cX1_of 0 = .ok (.dload_n 1, 1) := by decide +kernel
theorem dX1_of_1 : decode cX1_of 1 = .ok (.dload_n 1, 1) := by decide +kernel
theorem dX1_of_2 : decode cX1_of 2 = .ok (.dcmp .l, 1) := by decide +kernel
theorem dX1_of_3 : decode cX1_of 3 = .ok (.ifCond .eq 7, 3) := by decide +kernel
theorem dX1_of_6 : decode cX1_of 6 = .ok (.ldc2_w 15, 3) := by decide +kernel
theorem dX1_of_9 : decode cX1_of 9 = .ok (.lreturn, 1) := by decide +kernel
theorem dX1_of_10 : decode cX1_of 10 = .ok (.dload_n 1, 1) := by decide +kernel
theorem dX1_of_11 : decode cX1_of 11 = .ok (.dconst 0, 1) := by decide +kernel
theorem dX1_of_12 : decode cX1_of 12 = .ok (.dcmp .l, 1) := by decide +kernel
theorem dX1_of_13 : decode cX1_of 13 = .ok (.ifCond .ne 19, 3) := by decide +kernel
theorem dX1_of_16 : decode cX1_of 16 = .ok (.dconst 1, 1) := by decide +kernel
theorem dX1_of_17 : decode cX1_of 17 = .ok (.dload_n 1, 1) := by decide +kernel
theorem dX1_of_18 : decode cX1_of 18 = .ok (.ddiv, 1) := by decide +kernel
theorem dX1_of_19 : decode cX1_of 19 = .ok (.dconst 0, 1) := by decide +kernel
theorem dX1_of_20 : decode cX1_of 20 = .ok (.dcmp .g, 1) := by decide +kernel
theorem dX1_of_21 : decode cX1_of 21 = .ok (.ifCond .ge 9, 3) := by decide +kernel
theorem dX1_of_24 : decode cX1_of 24 = .ok (.ldc2_w 17, 3) := by decide +kernel
theorem dX1_of_27 : decode cX1_of 27 = .ok (.goto 4, 3) := by decide +kernel
theorem dX1_of_30 : decode cX1_of 30 = .ok (.lconst 0, 1) := by decide +kernel
theorem dX1_of_31 : decode cX1_of 31 = .ok (.lreturn, 1) := by decide +kernel
theorem dX1_of_32 : decode cX1_of 32 = .ok (.dload_n 1, 1) := by decide +kernel
theorem dX1_of_33 : decode cX1_of 33 = .ok (.dconst 0, 1) := by decide +kernel
theorem dX1_of_34 : decode cX1_of 34 = .ok (.dcmp .g, 1) := by decide +kernel
theorem dX1_of_35 : decode cX1_of 35 = .ok (.ifCond .ge 16, 3) := by decide +kernel
theorem dX1_of_38 : decode cX1_of 38 = .ok (.ldc2_w 17, 3) := by decide +kernel
theorem dX1_of_41 : decode cX1_of 41 = .ok (.aload_n 0, 1) := by decide +kernel
theorem dX1_of_42 : decode cX1_of 42 = .ok (.dload_n 1, 1) := by decide +kernel
theorem dX1_of_43 : decode cX1_of 43 = .ok (.dneg, 1) := by decide +kernel
theorem dX1_of_44 : decode cX1_of 44 = .ok (.invokevirtual 19, 3) := by decide +kernel
theorem dX1_of_47 : decode cX1_of 47 = .ok (.lor, 1) := by decide +kernel
theorem dX1_of_48 : decode cX1_of 48 = .ok (.goto 8, 3) := by decide +kernel
theorem dX1_of_51 : decode cX1_of 51 = .ok (.aload_n 0, 1) := by decide +kernel
theorem dX1_of_52 : decode cX1_of 52 = .ok (.dload_n 1, 1) := by decide +kernel
theorem dX1_of_53 : decode cX1_of 53 = .ok (.invokevirtual 19, 3) := by decide +kernel
theorem dX1_of_56 : decode cX1_of 56 = .ok (.lreturn, 1) := by decide +kernel
set_option maxRecDepth 20000 in
theorem ggX1_ofPositive_X2_isInfinite : GoodIn wsX1_ofPositive wsX2_isInfinite := goodIn_r _ [6, 7, 8] (by decide +kernel) (by decide +kernel)
set_option maxRecDepth 20000 in
theorem gX1_ofPositive_X2_isInfinite_n23 : GoodIn wsX1_ofPositive (wsX2_isInfinite) := ggX1_ofPositive_X2_isInfinite
set_option maxRecDepth 20000 in
theorem ggX1_ofPositive_X1_ofNormal : GoodIn wsX1_ofPositive wsX1_ofNormal := goodIn_r _ [13, 14, 15, 16, 17, 18] (by decide +kernel) (by decide +kernel)
set_option maxRecDepth 20000 in
theorem gX1_ofPositive_X1_ofNormal : GoodIn wsX1_ofPositive (wsV RX1 35 RX1 yX1_ofNormal wsX1_ofNormal) := goodIn_app (goodIn_of _ (by decide +kernel)) ggX1_ofPositive_X1_ofNormal
theorem dX1_ofPositive_0 : decode cX1_ofPositive 0 = .ok (.dload_n 1, 1) := by decide +kernel
theorem dX1_ofPositive_1 : decode cX1_ofPositive 1 = .ok (.invokestatic 23, 3) := by decide +kernel
theorem dX1_ofPositive_4 : decode cX1_ofPositive 4 = .ok (.ifCond .eq 7, 3) := by decide +kernel
theorem dX1_ofPositive_7 : decode cX1_ofPositive 7 = .ok (.ldc2_w 29, 3) := by decide +kernel
theorem dX1_ofPositive_10 : decode cX1_ofPositive 10 = .ok (.lreturn, 1) := by decide +kernel
theorem dX1_ofPositive_11 : decode cX1_ofPositive 11 = .ok (.dload_n 1, 1) := by decide +kernel
theorem dX1_ofPositive_12 : decode cX1_ofPositive 12 = .ok (.ldc2_w 31, 3) := by decide +kernel
theorem dX1_ofPositive_15 : decode cX1_ofPositive 15 = .ok (.dcmp .g, 1) := by decide +kernel
theorem dX1_ofPositive_16 : decode cX1_ofPositive 16 = .ok (.ifCond .ge 7, 3) := by decide +kernel
theorem dX1_ofPositive_19 : decode cX1_ofPositive 19 = .ok (.iconst 1, 1) := by decide +kernel
theorem dX1_ofPositive_20 : decode cX1_ofPositive 20 = .ok (.goto 4, 3) := by decide +kernel
theorem dX1_ofPositive_23 : decode cX1_ofPositive 23 = .ok (.iconst 0, 1) := by decide +kernel
theorem dX1_ofPositive_24 : decode cX1_ofPositive 24 = .ok (.istore_n 3, 1) := by decide +kernel
theorem dX1_ofPositive_25 : decode cX1_ofPositive 25 = .ok (.iload_n 3, 1) := by decide +kernel
theorem dX1_ofPositive_26 : decode cX1_ofPositive 26 = .ok (.ifCond .eq 12, 3) := by decide +kernel
theorem dX1_ofPositive_29 : decode cX1_ofPositive 29 = .ok (.dload_n 1, 1) := by decide +kernel
theorem dX1_ofPositive_30 : decode cX1_ofPositive 30 = .ok (.ldc2_w 33, 3) := by decide +kernel
theorem dX1_ofPositive_33 : decode cX1_ofPositive 33 = .ok (.ddiv, 1) := by decide +kernel
theorem dX1_ofPositive_34 : decode cX1_ofPositive 34 = .ok (.d2l, 1) := by decide +kernel
theorem dX1_ofPositive_35 : decode cX1_ofPositive 35 = .ok (.goto 8, 3) := by decide +kernel
theorem dX1_ofPositive_38 : decode cX1_ofPositive 38 = .ok (.aload_n 0, 1) := by decide +kernel
theorem dX1_ofPositive_39 : decode cX1_ofPositive 39 = .ok (.dload_n 1, 1) := by decide +kernel
theorem dX1_ofPositive_40 : decode cX1_ofPositive 40 = .ok (.invokevirtual 35, 3) := by decide +kernel
theorem dX1_ofPositive_43 : decode cX1_ofPositive 43 = .ok (.lreturn, 1) := by decide +kernel
theorem dX1_ofNormal_0 : decode cX1_ofNormal 0 = .ok (.dload_n 1, 1) := by decide +kernel
theorem dX1_ofNormal_1 : decode cX1_ofNormal 1 = .ok (.dstore_n 3, 1) := by decide +kernel
theorem dX1_ofNormal_2 : decode cX1_ofNormal 2 = .ok (.iconst 0, 1) := by decide +kernel
theorem dX1_ofNormal_3 : decode cX1_ofNormal 3 = .ok (.istore 5, 2) := by decide +kernel
theorem dX1_ofNormal_5 : decode cX1_ofNormal 5 = .ok (.aload_n 0, 1) := by decide +kernel
theorem dX1_ofNormal_6 : decode cX1_ofNormal 6 = .ok (.getfield 9, 3) := by decide +kernel
theorem dX1_ofNormal_9 : decode cX1_ofNormal 9 = .ok (.arraylength, 1) := by decide +kernel
theorem dX1_ofNormal_10 : decode cX1_ofNormal 10 = .ok (.iconst 1, 1) := by decide +kernel
theorem dX1_ofNormal_11 : decode cX1_ofNormal 11 = .ok (.isub, 1) := by decide +kernel
theorem dX1_ofNormal_12 : decode cX1_ofNormal 12 = .ok (.istore 6, 2) := by decide +kernel
theorem dX1_ofNormal_14 : decode cX1_ofNormal 14 = .ok (.iload 6, 2) := by decide +kernel
theorem dX1_ofNormal_16 : decode cX1_ofNormal 16 = .ok (.ifCond .lt 67, 3) := by decide +kernel
theorem dX1_ofNormal_19 : decode cX1_ofNormal 19 = .ok (.aload_n 0, 1) := by decide +kernel
theorem dX1_ofNormal_20 : decode cX1_ofNormal 20 = .ok (.getfield 9, 3) := by decide +kernel
theorem dX1_ofNormal_23 : decode cX1_ofNormal 23 = .ok (.iload 6, 2) := by decide +kernel
theorem dX1_ofNormal_25 : decode cX1_ofNormal 25 = .ok (.daload, 1) := by decide +kernel
theorem dX1_ofNormal_26 : decode cX1_ofNormal 26 = .ok (.dstore 7, 2) := by decide +kernel
theorem dX1_ofNormal_28 : decode cX1_ofNormal 28 = .ok (.dload_n 3, 1) := by decide +kernel
theorem dX1_ofNormal_29 : decode cX1_ofNormal 29 = .ok (.dload 7, 2) := by decide +kernel
theorem dX1_ofNormal_31 : decode cX1_ofNormal 31 = .ok (.dcmp .l, 1) := by decide +kernel
theorem dX1_ofNormal_32 : decode cX1_ofNormal 32 = .ok (.ifCond .lt 20, 3) := by decide +kernel
theorem dX1_ofNormal_35 : decode cX1_ofNormal 35 = .ok (.dload_n 3, 1) := by decide +kernel
theorem dX1_ofNormal_36 : decode cX1_ofNormal 36 = .ok (.dload 7, 2) := by decide +kernel
theorem dX1_ofNormal_38 : decode cX1_ofNormal 38 = .ok (.ddiv, 1) := by decide +kernel
theorem dX1_ofNormal_39 : decode cX1_ofNormal 39 = .ok (.dstore_n 3, 1) := by decide +kernel
theorem dX1_ofNormal_40 : decode cX1_ofNormal 40 = .ok (.iload 5, 2) := by decide +kernel
theorem dX1_ofNormal_42 : decode cX1_ofNormal 42 = .ok (.iconst 1, 1) := by decide +kernel
theorem dX1_ofNormal_43 : decode cX1_ofNormal 43 = .ok (.iload 6, 2) := by decide +kernel
theorem dX1_ofNormal_45 : decode cX1_ofNormal 45 = .ok (.ishl, 1) := by decide +kernel
theorem dX1_ofNormal_46 : decode cX1_ofNormal 46 = .ok (.iadd, 1) := by decide +kernel
theorem dX1_ofNormal_47 : decode cX1_ofNormal 47 = .ok (.istore 5, 2) := by decide +kernel
theorem dX1_ofNormal_49 : decode cX1_ofNormal 49 = .ok (.goto 28, 3) := by decide +kernel
theorem dX1_ofNormal_52 : decode cX1_ofNormal 52 = .ok (.dload_n 3, 1) := by decide +kernel
theorem dX1_ofNormal_53 : decode cX1_ofNormal 53 = .ok (.dload 7, 2) := by decide +kernel
theorem dX1_ofNormal_55 : decode cX1_ofNormal 55 = .ok (.dmul, 1) := by decide +kernel
theorem dX1_ofNormal_56 : decode cX1_ofNormal 56 = .ok (.ldc2_w 13, 3) := by decide +kernel
theorem dX1_ofNormal_59 : decode cX1_ofNormal 59 = .ok (.dcmp .g, 1) := by decide +kernel
theorem dX1_ofNormal_60 : decode cX1_ofNormal 60 = .ok (.ifCond .ge 17, 3) := by decide +kernel
theorem dX1_ofNormal_63 : decode cX1_ofNormal 63 = .ok (.dload_n 3, 1) := by decide +kernel
theorem dX1_ofNormal_64 : decode cX1_ofNormal 64 = .ok (.dload 7, 2) := by decide +kernel
theorem dX1_ofNormal_66 : decode cX1_ofNormal 66 = .ok (.dmul, 1) := by decide +kernel
theorem dX1_ofNormal_67 : decode cX1_ofNormal 67 = .ok (.dstore_n 3, 1) := by decide +kernel
theorem dX1_ofNormal_68 : decode cX1_ofNormal 68 = .ok (.iload 5, 2) := by decide +kernel
theorem dX1_ofNormal_70 : decode cX1_ofNormal 70 = .ok (.iconst 1, 1) := by decide +kernel
theorem dX1_ofNormal_71 : decode cX1_ofNormal 71 = .ok (.iload 6, 2) := by decide +kernel
theorem dX1_ofNormal_73 : decode cX1_ofNormal 73 = .ok (.ishl, 1) := by decide +kernel
theorem dX1_ofNormal_74 : decode cX1_ofNormal 74 = .ok (.isub, 1) := by decide +kernel
theorem dX1_ofNormal_75 : decode cX1_ofNormal 75 = .ok (.istore 5, 2) := by decide +kernel
theorem dX1_ofNormal_77 : decode cX1_ofNormal 77 = .ok (.iinc 6 (-1), 3) := by decide +kernel
theorem dX1_ofNormal_80 : decode cX1_ofNormal 80 = .ok (.goto (-66), 3) := by decide +kernel
theorem dX1_ofNormal_83 : decode cX1_ofNormal 83 = .ok (.dload_n 3, 1) := by decide +kernel
theorem dX1_ofNormal_84 : decode cX1_ofNormal 84 = .ok (.ldc2_w 38, 3) := by decide +kernel
theorem dX1_ofNormal_87 : decode cX1_ofNormal 87 = .ok (.dmul, 1) := by decide +kernel
theorem dX1_ofNormal_88 : decode cX1_ofNormal 88 = .ok (.d2l, 1) := by decide +kernel
theorem dX1_ofNormal_89 : decode cX1_ofNormal 89 = .ok (.ldc2_w 40, 3) := by decide +kernel
theorem dX1_ofNormal_92 : decode cX1_ofNormal 92 = .ok (.lsub, 1) := by decide +kernel
theorem dX1_ofNormal_93 : decode cX1_ofNormal 93 = .ok (.lstore 6, 2) := by decide +kernel
theorem dX1_ofNormal_95 : decode cX1_ofNormal 95 = .ok (.iload 5, 2) := by decide +kernel
theorem dX1_ofNormal_97 : decode cX1_ofNormal 97 = .ok (.sipush 1023, 3) := by decide +kernel
theorem dX1_ofNormal_100 : decode cX1_ofNormal 100 = .ok (.iadd, 1) := by decide +kernel
theorem dX1_ofNormal_101 : decode cX1_ofNormal 101 = .ok (.i2l, 1) := by decide +kernel
theorem dX1_ofNormal_102 : decode cX1_ofNormal 102 = .ok (.bipush 52, 2) := by decide +kernel
theorem dX1_ofNormal_104 : decode cX1_ofNormal 104 = .ok (.lshl, 1) := by decide +kernel
theorem dX1_ofNormal_105 : decode cX1_ofNormal 105 = .ok (.lload 6, 2) := by decide +kernel
theorem dX1_ofNormal_107 : decode cX1_ofNormal 107 = .ok (.ladd, 1) := by decide +kernel
theorem dX1_ofNormal_108 : decode cX1_ofNormal 108 = .ok (.lreturn, 1) := by decide +kernel
set_option maxRecDepth 20000 in
theorem ggX2_init_X1_init : GoodIn wsX2_init wsX1_init := goodIn_r _ [16, 17, 2, 3, 18, 19, 20, 26] (by decide +kernel) (by decide +kernel)
set_option maxRecDepth 20000 in
theorem gX2_init_X1_init : GoodIn wsX2_init (wsX1_init) := ggX2_init_X1_init
theorem dX2_init_0 : decode cX2_init 0 = .ok (.aload_n 0, 1) := by decide +kernel
theorem dX2_init_1 : decode cX2_init 1 = .ok (.invokespecial 1, 3) := by decide +kernel
theorem dX2_init_4 : decode cX2_init 4 = .ok (.aload_n 0, 1) := by decide +kernel
theorem dX2_init_5 : decode cX2_init 5 = .ok (.bipush 60, 2) := by decide +kernel
theorem dX2_init_7 : decode cX2_init 7 = .ok (.anewarray 9, 3) := by decide +kernel
theorem dX2_init_10 : decode cX2_init 10 = .ok (.putfield 11, 3) := by decide +kernel
theorem dX2_init_13 : decode cX2_init 13 = .ok (.aload_n 0, 1) := by decide +kernel
theorem dX2_init_14 : decode cX2_init 14 = .ok (.bipush 6, 2) := by decide +kernel
theorem dX2_init_16 : decode cX2_init 16 = .ok (.newarray .int, 2) := by decide +kernel
theorem dX2_init_18 : decode cX2_init 18 = .ok (.putfield 15, 3) := by decide +kernel
theorem dX2_init_21 : decode cX2_init 21 = .ok (.aload_n 0, 1) := by decide +kernel
theorem dX2_init_22 : decode cX2_init 22 = .ok (.new 19, 3) := by decide +kernel
theorem dX2_init_25 : decode cX2_init 25 = .ok (.dup, 1) := by decide +kernel
theorem dX2_init_26 : decode cX2_init 26 = .ok (.invokespecial 21, 3) := by decide +kernel
theorem dX2_init_29 : decode cX2_init 29 = .ok (.putfield 22, 3) := by decide +kernel
theorem dX2_init_32 : decode cX2_init 32 = .ok (.aload_n 0, 1) := by decide +kernel
theorem dX2_init_33 : decode cX2_init 33 = .ok (.iconst 0, 1) := by decide +kernel
theorem dX2_init_34 : decode cX2_init 34 = .ok (.putfield 26, 3) := by decide +kernel
theorem dX2_init_37 : decode cX2_init 37 = .ok (.aload_n 0, 1) := by decide +kernel
theorem dX2_init_38 : decode cX2_init 38 = .ok (.iconst 0, 1) := by decide +kernel
theorem dX2_init_39 : decode cX2_init 39 = .ok (.putfield 30, 3) := by decide +kernel
theorem dX2_init_42 : decode cX2_init 42 = .ok (.return_, 1) := by decide +kernel
set_option maxRecDepth 20000 in
theorem ggX2_create_X2_isKind : GoodIn wsX2_create wsX2_isKind := goodIn_r _ [9] (by decide +kernel) (by decide +kernel)
set_option maxRecDepth 20000 in
theorem gX2_create_X2_isKind : GoodIn wsX2_create (va_wsS RX2 33 yX2_isKind wsX2_isKind) := goodIn_app (goodIn_of _ (by decide +kernel)) ggX2_create_X2_isKind
set_option maxRecDepth 20000 in
theorem ggX2_create_X2_holdsCells : GoodIn wsX2_create wsX2_holdsCells := goodIn_r _ [12] (by decide +kernel) (by decide +kernel)
set_option maxRecDepth 20000 in
theorem gX2_create_X2_holdsCells : GoodIn wsX2_create (va_wsS RX2 44 yX2_holdsCells wsX2_holdsCells) := goodIn_app (goodIn_of _ (by decide +kernel)) ggX2_create_X2_holdsCells
set_option maxRecDepth 20000 in
theorem ggX2_create_X2_isLength : GoodIn wsX2_create wsX2_isLength := goodIn_r _ [15] (by decide +kernel) (by decide +kernel)
set_option maxRecDepth 20000 in
theorem gX2_create_X2_isLength : GoodIn wsX2_create (va_wsS RX2 47 yX2_isLength wsX2_isLength) := goodIn_app (goodIn_of _ (by decide +kernel)) ggX2_create_X2_isLength
set_option maxRecDepth 20000 in
theorem ggX2_create_X2_refuseWhenFull : GoodIn wsX2_create wsX2_refuseWhenFull := goodIn_ca (goodIn_r _ [19, 20, 21, 22, 23, 46, 47, 48, 49, 50] (by decide +kernel) (by decide +kernel)) (goodIn_sub (fun _ h => List.mem_cons_of_mem _ (List.mem_append_right _ h)) (by decide +kernel))
set_option maxRecDepth 20000 in
theorem gX2_create_X2_refuseWhenFull : GoodIn wsX2_create (wsV RX2 52 RX2 yX2_refuseWhenFull wsX2_refuseWhenFull) := goodIn_app (goodIn_of _ (by decide +kernel)) ggX2_create_X2_refuseWhenFull
set_option maxRecDepth 20000 in
theorem ggX2_create_X0_init : GoodIn wsX2_create wsX0_init := goodIn_r _ [26, 27, 28, 29, 30, 31, 32, 33, 34, 35, 11, 8, 12, 14, 15, 36, 37, 42, 43, 44, 45] (by decide +kernel) (by decide +kernel)
set_option maxRecDepth 20000 in
theorem gX2_create_X0_init : GoodIn wsX2_create (wsX0_init) := ggX2_create_X0_init
set_option maxRecDepth 20000 in
theorem ggX2_create_X2_addColumn : GoodIn wsX2_create wsX2_addColumn := goodIn_r _ [41, 22, 23, 46, 47, 48, 49, 50] (by decide +kernel) (by decide +kernel)
set_option maxRecDepth 20000 in
theorem gX2_create_X2_addColumn : GoodIn wsX2_create (wsV RX2 58 RX2 yX2_addColumn wsX2_addColumn) := goodIn_app (goodIn_of _ (by decide +kernel)) ggX2_create_X2_addColumn
theorem dX2_create_0 : decode cX2_create 0 = .ok (.iload_n 1, 1) := by decide +kernel
theorem dX2_create_1 : decode cX2_create 1 = .ok (.invokestatic 33, 3) := by decide +kernel
theorem dX2_create_4 : decode cX2_create 4 = .ok (.ifCond .ne 13, 3) := by decide +kernel
theorem dX2_create_7 : decode cX2_create 7 = .ok (.new 37, 3) := by decide +kernel
theorem dX2_create_10 : decode cX2_create 10 = .ok (.dup, 1) := by decide +kernel
theorem dX2_create_11 : decode cX2_create 11 = .ok (.ldc 39, 2) := by decide +kernel
theorem dX2_create_13 : decode cX2_create 13 = .ok (.invokespecial 41, 3) := by decide +kernel
theorem dX2_create_16 : decode cX2_create 16 = .ok (.athrow, 1) := by decide +kernel
theorem dX2_create_17 : decode cX2_create 17 = .ok (.iload_n 1, 1) := by decide +kernel
theorem dX2_create_18 : decode cX2_create 18 = .ok (.invokestatic 44, 3) := by decide +kernel
theorem dX2_create_21 : decode cX2_create 21 = .ok (.ifCond .eq 20, 3) := by decide +kernel
theorem dX2_create_24 : decode cX2_create 24 = .ok (.iload_n 2, 1) := by decide +kernel
theorem dX2_create_25 : decode cX2_create 25 = .ok (.invokestatic 47, 3) := by decide +kernel
theorem dX2_create_28 : decode cX2_create 28 = .ok (.ifCond .ne 13, 3) := by decide +kernel
theorem dX2_create_31 : decode cX2_create 31 = .ok (.new 37, 3) := by decide +kernel
theorem dX2_create_34 : decode cX2_create 34 = .ok (.dup, 1) := by decide +kernel
theorem dX2_create_35 : decode cX2_create 35 = .ok (.ldc 50, 2) := by decide +kernel
theorem dX2_create_37 : decode cX2_create 37 = .ok (.invokespecial 41, 3) := by decide +kernel
theorem dX2_create_40 : decode cX2_create 40 = .ok (.athrow, 1) := by decide +kernel
theorem dX2_create_41 : decode cX2_create 41 = .ok (.aload_n 0, 1) := by decide +kernel
theorem dX2_create_42 : decode cX2_create 42 = .ok (.invokevirtual 52, 3) := by decide +kernel
theorem dX2_create_45 : decode cX2_create 45 = .ok (.aload_n 0, 1) := by decide +kernel
theorem dX2_create_46 : decode cX2_create 46 = .ok (.new 9, 3) := by decide +kernel
theorem dX2_create_49 : decode cX2_create 49 = .ok (.dup, 1) := by decide +kernel
theorem dX2_create_50 : decode cX2_create 50 = .ok (.iload_n 1, 1) := by decide +kernel
theorem dX2_create_51 : decode cX2_create 51 = .ok (.iload_n 2, 1) := by decide +kernel
theorem dX2_create_52 : decode cX2_create 52 = .ok (.invokespecial 55, 3) := by decide +kernel
theorem dX2_create_55 : decode cX2_create 55 = .ok (.invokevirtual 58, 3) := by decide +kernel
theorem dX2_create_58 : decode cX2_create 58 = .ok (.ireturn, 1) := by decide +kernel
theorem dX2_columnCount_0 : decode cX2_columnCount 0 = .ok (.aload_n 0, 1) := by decide +kernel
theorem dX2_columnCount_1 : decode cX2_columnCount 1 = .ok (.getfield 26, 3) := by decide +kernel
theorem dX2_columnCount_4 : decode cX2_columnCount 4 = .ok (.ireturn, 1) := by decide +kernel
set_option maxRecDepth 20000 in
theorem ggX2_kind_X2_columnAt : GoodIn wsX2_kind wsX2_columnAt := goodIn_ca (goodIn_r _ [6, 7, 8, 9, 14, 15, 16, 17, 18] (by decide +kernel) (by decide +kernel)) (goodIn_sub (fun _ h => List.mem_cons_of_mem _ (List.mem_append_right _ h)) (by decide +kernel))
set_option maxRecDepth 20000 in
theorem gX2_kind_X2_columnAt : GoodIn wsX2_kind (wsV RX2 62 RX2 yX2_columnAt wsX2_columnAt) := goodIn_app (goodIn_of _ (by decide +kernel)) ggX2_kind_X2_columnAt
theorem dX2_kind_0 : decode cX2_kind 0 = .ok (.aload_n 0, 1) := by decide +kernel
theorem dX2_kind_1 : decode cX2_kind 1 = .ok (.iload_n 1, 1) := by decide +kernel
theorem dX2_kind_2 : decode cX2_kind 2 = .ok (.invokevirtual 62, 3) := by decide +kernel
theorem dX2_kind_5 : decode cX2_kind 5 = .ok (.getfield 66, 3) := by decide +kernel
theorem dX2_kind_8 : decode cX2_kind 8 = .ok (.ireturn, 1) := by decide +kernel
set_option maxRecDepth 20000 in
theorem ggX2_length_X2_columnAt : GoodIn wsX2_length wsX2_columnAt := goodIn_ca (goodIn_r _ [6, 7, 8, 9, 24, 25, 26, 27, 28] (by decide +kernel) (by decide +kernel)) (goodIn_sub (fun _ h => List.mem_cons_of_mem _ (List.mem_append_right _ h)) (by decide +kernel))
set_option maxRecDepth 20000 in
theorem gX2_length_X2_columnAt : GoodIn wsX2_length (wsV RX2 62 RX2 yX2_columnAt wsX2_columnAt) := goodIn_app (goodIn_of _ (by decide +kernel)) ggX2_length_X2_columnAt
set_option maxRecDepth 20000 in
theorem ggX2_length_X2_codeOfColumn : GoodIn wsX2_length wsX2_codeOfColumn := goodIn_r _ [12, 13, 20, 21, 22, 23] (by decide +kernel) (by decide +kernel)
set_option maxRecDepth 20000 in
theorem gX2_length_X2_codeOfColumn : GoodIn wsX2_length (va_wsS RX2 69 yX2_codeOfColumn wsX2_codeOfColumn) := goodIn_app (goodIn_of _ (by decide +kernel)) ggX2_length_X2_codeOfColumn
set_option maxRecDepth 20000 in
theorem ggX2_length_X2_note : GoodIn wsX2_length wsX2_note := goodIn_r _ [17, 18, 19, 24, 25, 26, 27, 28] (by decide +kernel) (by decide +kernel)
set_option maxRecDepth 20000 in
theorem gX2_length_X2_note : GoodIn wsX2_length (wsV RX2 72 RX2 yX2_note wsX2_note) := goodIn_app (goodIn_of _ (by decide +kernel)) ggX2_length_X2_note
theorem dX2_length_0 : decode cX2_length 0 = .ok (.aload_n 0, 1) := by decide +kernel
theorem dX2_length_1 : decode cX2_length 1 = .ok (.iload_n 1, 1) := by decide +kernel
theorem dX2_length_2 : decode cX2_length 2 = .ok (.invokevirtual 62, 3) := by decide +kernel
theorem dX2_length_5 : decode cX2_length 5 = .ok (.astore_n 2, 1) := by decide +kernel
theorem dX2_length_6 : decode cX2_length 6 = .ok (.aload_n 0, 1) := by decide +kernel
theorem dX2_length_7 : decode cX2_length 7 = .ok (.aload_n 2, 1) := by decide +kernel
theorem dX2_length_8 : decode cX2_length 8 = .ok (.invokestatic 69, 3) := by decide +kernel
theorem dX2_length_11 : decode cX2_length 11 = .ok (.invokevirtual 72, 3) := by decide +kernel
theorem dX2_length_14 : decode cX2_length 14 = .ok (.pop, 1) := by decide +kernel
theorem dX2_length_15 : decode cX2_length 15 = .ok (.aload_n 2, 1) := by decide +kernel
theorem dX2_length_16 : decode cX2_length 16 = .ok (.getfield 76, 3) := by decide +kernel
theorem dX2_length_19 : decode cX2_length 19 = .ok (.ireturn, 1) := by decide +kernel
set_option maxRecDepth 20000 in
theorem ggX2_readBoolean_X2_columnAt : GoodIn wsX2_readBoolean wsX2_columnAt := goodIn_ca (goodIn_r _ [5, 6, 7, 8, 39, 40, 41, 42, 43] (by decide +kernel) (by decide +kernel)) (goodIn_sub (fun _ h => List.mem_cons_of_mem _ (List.mem_append_right _ h)) (by decide +kernel))
set_option maxRecDepth 20000 in
theorem gX2_readBoolean_X2_columnAt : GoodIn wsX2_readBoolean (wsV RX2 62 RX2 yX2_columnAt wsX2_columnAt) := goodIn_app (goodIn_of _ (by decide +kernel)) ggX2_readBoolean_X2_columnAt
set_option maxRecDepth 20000 in
theorem ggX2_readBoolean_X2_readWhole : GoodIn wsX2_readBoolean wsX2_readWhole := goodIn_r _ [12, 13, 14, 15, 4, 16, 17, 18, 19, 20, 21, 22, 23, 24, 25, 26, 27, 28, 29, 30, 31, 32, 33, 34, 35, 36, 37, 38, 44, 45, 46, 47, 39, 40, 41, 42, 43] (by decide +kernel) (by decide +kernel)
set_option maxRecDepth 20000 in
theorem gX2_readBoolean_X2_readWhole : GoodIn wsX2_readBoolean (wsV RX2 79 RX2 yX2_readWhole wsX2_readWhole) := goodIn_app (goodIn_of _ (by decide +kernel)) ggX2_readBoolean_X2_readWhole
theorem dX2_readBoolean_0 : decode cX2_readBoolean 0 = .ok (.aload_n 0, 1) := by decide +kernel
theorem dX2_readBoolean_1 : decode cX2_readBoolean 1 = .ok (.aload_n 0, 1) := by decide +kernel
theorem dX2_readBoolean_2 : decode cX2_readBoolean 2 = .ok (.iload_n 1, 1) := by decide +kernel
theorem dX2_readBoolean_3 : decode cX2_readBoolean 3 = .ok (.invokevirtual 62, 3) := by decide +kernel
theorem dX2_readBoolean_6 : decode cX2_readBoolean 6 = .ok (.iload_n 2, 1) := by decide +kernel
theorem dX2_readBoolean_7 : decode cX2_readBoolean 7 = .ok (.iconst 1, 1) := by decide +kernel
theorem dX2_readBoolean_8 : decode cX2_readBoolean 8 = .ok (.invokevirtual 79, 3) := by decide +kernel
theorem dX2_readBoolean_11 : decode cX2_readBoolean 11 = .ok (.lconst 0, 1) := by decide +kernel
theorem dX2_readBoolean_12 : decode cX2_readBoolean 12 = .ok (.lcmp, 1) := by decide +kernel
theorem dX2_readBoolean_13 : decode cX2_readBoolean 13 = .ok (.ifCond .eq 7, 3) := by decide +kernel
theorem dX2_readBoolean_16 : decode cX2_readBoolean 16 = .ok (.iconst 1, 1) := by decide +kernel
theorem dX2_readBoolean_17 : decode cX2_readBoolean 17 = .ok (.goto 4, 3) := by decide +kernel
theorem dX2_readBoolean_20 : decode cX2_readBoolean 20 = .ok (.iconst 0, 1) := by decide +kernel
theorem dX2_readBoolean_21 : decode cX2_readBoolean 21 = .ok (.ireturn, 1) := by decide +kernel
set_option maxRecDepth 20000 in
theorem ggX2_readByte_X2_columnAt : GoodIn wsX2_readByte wsX2_columnAt := goodIn_ca (goodIn_r _ [5, 6, 7, 8, 39, 40, 41, 42, 43] (by decide +kernel) (by decide +kernel)) (goodIn_sub (fun _ h => List.mem_cons_of_mem _ (List.mem_append_right _ h)) (by decide +kernel))
set_option maxRecDepth 20000 in
theorem gX2_readByte_X2_columnAt : GoodIn wsX2_readByte (wsV RX2 62 RX2 yX2_columnAt wsX2_columnAt) := goodIn_app (goodIn_of _ (by decide +kernel)) ggX2_readByte_X2_columnAt
set_option maxRecDepth 20000 in
theorem ggX2_readByte_X2_readWhole : GoodIn wsX2_readByte wsX2_readWhole := goodIn_r _ [12, 13, 14, 15, 4, 16, 17, 18, 19, 20, 21, 22, 23, 24, 25, 26, 27, 28, 29, 30, 31, 32, 33, 34, 35, 36, 37, 38, 44, 45, 46, 47, 39, 40, 41, 42, 43] (by decide +kernel) (by decide +kernel)
set_option maxRecDepth 20000 in
theorem gX2_readByte_X2_readWhole : GoodIn wsX2_readByte (wsV RX2 79 RX2 yX2_readWhole wsX2_readWhole) := goodIn_app (goodIn_of _ (by decide +kernel)) ggX2_readByte_X2_readWhole
theorem dX2_readByte_0 : decode cX2_readByte 0 = .ok (.aload_n 0, 1) := by decide +kernel
theorem dX2_readByte_1 : decode cX2_readByte 1 = .ok (.aload_n 0, 1) := by decide +kernel
theorem dX2_readByte_2 : decode cX2_readByte 2 = .ok (.iload_n 1, 1) := by decide +kernel
theorem dX2_readByte_3 : decode cX2_readByte 3 = .ok (.invokevirtual 62, 3) := by decide +kernel
theorem dX2_readByte_6 : decode cX2_readByte 6 = .ok (.iload_n 2, 1) := by decide +kernel
theorem dX2_readByte_7 : decode cX2_readByte 7 = .ok (.iconst 2, 1) := by decide +kernel
theorem dX2_readByte_8 : decode cX2_readByte 8 = .ok (.invokevirtual 79, 3) := by decide +kernel
theorem dX2_readByte_11 : decode cX2_readByte 11 = .ok (.l2i, 1) := by decide +kernel
theorem dX2_readByte_12 : decode cX2_readByte 12 = .ok (.ireturn, 1) := by decide +kernel
set_option maxRecDepth 20000 in
theorem ggX2_readChar_X2_columnAt : GoodIn wsX2_readChar wsX2_columnAt := goodIn_ca (goodIn_r _ [5, 6, 7, 8, 39, 40, 41, 42, 43] (by decide +kernel) (by decide +kernel)) (goodIn_sub (fun _ h => List.mem_cons_of_mem _ (List.mem_append_right _ h)) (by decide +kernel))
set_option maxRecDepth 20000 in
theorem gX2_readChar_X2_columnAt : GoodIn wsX2_readChar (wsV RX2 62 RX2 yX2_columnAt wsX2_columnAt) := goodIn_app (goodIn_of _ (by decide +kernel)) ggX2_readChar_X2_columnAt
set_option maxRecDepth 20000 in
theorem ggX2_readChar_X2_readWhole : GoodIn wsX2_readChar wsX2_readWhole := goodIn_r _ [12, 13, 14, 15, 4, 16, 17, 18, 19, 20, 21, 22, 23, 24, 25, 26, 27, 28, 29, 30, 31, 32, 33, 34, 35, 36, 37, 38, 44, 45, 46, 47, 39, 40, 41, 42, 43] (by decide +kernel) (by decide +kernel)
set_option maxRecDepth 20000 in
theorem gX2_readChar_X2_readWhole : GoodIn wsX2_readChar (wsV RX2 79 RX2 yX2_readWhole wsX2_readWhole) := goodIn_app (goodIn_of _ (by decide +kernel)) ggX2_readChar_X2_readWhole
theorem dX2_readChar_0 : decode cX2_readChar 0 = .ok (.aload_n 0, 1) := by decide +kernel
theorem dX2_readChar_1 : decode cX2_readChar 1 = .ok (.aload_n 0, 1) := by decide +kernel
theorem dX2_readChar_2 : decode cX2_readChar 2 = .ok (.iload_n 1, 1) := by decide +kernel
theorem dX2_readChar_3 : decode cX2_readChar 3 = .ok (.invokevirtual 62, 3) := by decide +kernel
theorem dX2_readChar_6 : decode cX2_readChar 6 = .ok (.iload_n 2, 1) := by decide +kernel
theorem dX2_readChar_7 : decode cX2_readChar 7 = .ok (.iconst 3, 1) := by decide +kernel
theorem dX2_readChar_8 : decode cX2_readChar 8 = .ok (.invokevirtual 79, 3) := by decide +kernel
theorem dX2_readChar_11 : decode cX2_readChar 11 = .ok (.l2i, 1) := by decide +kernel
theorem dX2_readChar_12 : decode cX2_readChar 12 = .ok (.ireturn, 1) := by decide +kernel
set_option maxRecDepth 20000 in
theorem ggX2_readShort_X2_columnAt : GoodIn wsX2_readShort wsX2_columnAt := goodIn_ca (goodIn_r _ [5, 6, 7, 8, 39, 40, 41, 42, 43] (by decide +kernel) (by decide +kernel)) (goodIn_sub (fun _ h => List.mem_cons_of_mem _ (List.mem_append_right _ h)) (by decide +kernel))
set_option maxRecDepth 20000 in
theorem gX2_readShort_X2_columnAt : GoodIn wsX2_readShort (wsV RX2 62 RX2 yX2_columnAt wsX2_columnAt) := goodIn_app (goodIn_of _ (by decide +kernel)) ggX2_readShort_X2_columnAt
set_option maxRecDepth 20000 in
theorem ggX2_readShort_X2_readWhole : GoodIn wsX2_readShort wsX2_readWhole := goodIn_r _ [12, 13, 14, 15, 4, 16, 17, 18, 19, 20, 21, 22, 23, 24, 25, 26, 27, 28, 29, 30, 31, 32, 33, 34, 35, 36, 37, 38, 44, 45, 46, 47, 39, 40, 41, 42, 43] (by decide +kernel) (by decide +kernel)
set_option maxRecDepth 20000 in
theorem gX2_readShort_X2_readWhole : GoodIn wsX2_readShort (wsV RX2 79 RX2 yX2_readWhole wsX2_readWhole) := goodIn_app (goodIn_of _ (by decide +kernel)) ggX2_readShort_X2_readWhole
theorem dX2_readShort_0 : decode cX2_readShort 0 = .ok (.aload_n 0, 1) := by decide +kernel
theorem dX2_readShort_1 : decode cX2_readShort 1 = .ok (.aload_n 0, 1) := by decide +kernel
theorem dX2_readShort_2 : decode cX2_readShort 2 = .ok (.iload_n 1, 1) := by decide +kernel
theorem dX2_readShort_3 : decode cX2_readShort 3 = .ok (.invokevirtual 62, 3) := by decide +kernel
theorem dX2_readShort_6 : decode cX2_readShort 6 = .ok (.iload_n 2, 1) := by decide +kernel
theorem dX2_readShort_7 : decode cX2_readShort 7 = .ok (.iconst 4, 1) := by decide +kernel
theorem dX2_readShort_8 : decode cX2_readShort 8 = .ok (.invokevirtual 79, 3) := by decide +kernel
theorem dX2_readShort_11 : decode cX2_readShort 11 = .ok (.l2i, 1) := by decide +kernel
theorem dX2_readShort_12 : decode cX2_readShort 12 = .ok (.ireturn, 1) := by decide +kernel
set_option maxRecDepth 20000 in
theorem ggX2_readInt_X2_columnAt : GoodIn wsX2_readInt wsX2_columnAt := goodIn_ca (goodIn_r _ [5, 6, 7, 8, 39, 40, 41, 42, 43] (by decide +kernel) (by decide +kernel)) (goodIn_sub (fun _ h => List.mem_cons_of_mem _ (List.mem_append_right _ h)) (by decide +kernel))
set_option maxRecDepth 20000 in
theorem gX2_readInt_X2_columnAt : GoodIn wsX2_readInt (wsV RX2 62 RX2 yX2_columnAt wsX2_columnAt) := goodIn_app (goodIn_of _ (by decide +kernel)) ggX2_readInt_X2_columnAt
set_option maxRecDepth 20000 in
theorem ggX2_readInt_X2_readWhole : GoodIn wsX2_readInt wsX2_readWhole := goodIn_r _ [12, 13, 14, 15, 4, 16, 17, 18, 19, 20, 21, 22, 23, 24, 25, 26, 27, 28, 29, 30, 31, 32, 33, 34, 35, 36, 37, 38, 44, 45, 46, 47, 39, 40, 41, 42, 43] (by decide +kernel) (by decide +kernel)
set_option maxRecDepth 20000 in
theorem gX2_readInt_X2_readWhole : GoodIn wsX2_readInt (wsV RX2 79 RX2 yX2_readWhole wsX2_readWhole) := goodIn_app (goodIn_of _ (by decide +kernel)) ggX2_readInt_X2_readWhole
theorem dX2_readInt_0 : decode cX2_readInt 0 = .ok (.aload_n 0, 1) := by decide +kernel
theorem dX2_readInt_1 : decode cX2_readInt 1 = .ok (.aload_n 0, 1) := by decide +kernel
theorem dX2_readInt_2 : decode cX2_readInt 2 = .ok (.iload_n 1, 1) := by decide +kernel
theorem dX2_readInt_3 : decode cX2_readInt 3 = .ok (.invokevirtual 62, 3) := by decide +kernel
theorem dX2_readInt_6 : decode cX2_readInt 6 = .ok (.iload_n 2, 1) := by decide +kernel
theorem dX2_readInt_7 : decode cX2_readInt 7 = .ok (.iconst 5, 1) := by decide +kernel
theorem dX2_readInt_8 : decode cX2_readInt 8 = .ok (.invokevirtual 79, 3) := by decide +kernel
theorem dX2_readInt_11 : decode cX2_readInt 11 = .ok (.l2i, 1) := by decide +kernel
theorem dX2_readInt_12 : decode cX2_readInt 12 = .ok (.ireturn, 1) := by decide +kernel
set_option maxRecDepth 20000 in
theorem ggX2_readLong_X2_columnAt : GoodIn wsX2_readLong wsX2_columnAt := goodIn_ca (goodIn_r _ [5, 6, 7, 8, 39, 40, 41, 42, 43] (by decide +kernel) (by decide +kernel)) (goodIn_sub (fun _ h => List.mem_cons_of_mem _ (List.mem_append_right _ h)) (by decide +kernel))
set_option maxRecDepth 20000 in
theorem gX2_readLong_X2_columnAt : GoodIn wsX2_readLong (wsV RX2 62 RX2 yX2_columnAt wsX2_columnAt) := goodIn_app (goodIn_of _ (by decide +kernel)) ggX2_readLong_X2_columnAt
set_option maxRecDepth 20000 in
theorem ggX2_readLong_X2_readWhole : GoodIn wsX2_readLong wsX2_readWhole := goodIn_r _ [12, 13, 14, 15, 4, 16, 17, 18, 19, 20, 21, 22, 23, 24, 25, 26, 27, 28, 29, 30, 31, 32, 33, 34, 35, 36, 37, 38, 44, 45, 46, 47, 39, 40, 41, 42, 43] (by decide +kernel) (by decide +kernel)
set_option maxRecDepth 20000 in
theorem gX2_readLong_X2_readWhole : GoodIn wsX2_readLong (wsV RX2 79 RX2 yX2_readWhole wsX2_readWhole) := goodIn_app (goodIn_of _ (by decide +kernel)) ggX2_readLong_X2_readWhole
theorem dX2_readLong_0 : decode cX2_readLong 0 = .ok (.aload_n 0, 1) := by decide +kernel
theorem dX2_readLong_1 : decode cX2_readLong 1 = .ok (.aload_n 0, 1) := by decide +kernel
theorem dX2_readLong_2 : decode cX2_readLong 2 = .ok (.iload_n 1, 1) := by decide +kernel
theorem dX2_readLong_3 : decode cX2_readLong 3 = .ok (.invokevirtual 62, 3) := by decide +kernel
theorem dX2_readLong_6 : decode cX2_readLong 6 = .ok (.iload_n 2, 1) := by decide +kernel
theorem dX2_readLong_7 : decode cX2_readLong 7 = .ok (.bipush 6, 2) := by decide +kernel
theorem dX2_readLong_9 : decode cX2_readLong 9 = .ok (.invokevirtual 79, 3) := by decide +kernel
theorem dX2_readLong_12 : decode cX2_readLong 12 = .ok (.lreturn, 1) := by decide +kernel
set_option maxRecDepth 20000 in
theorem ggX2_readFloat_X2_columnAt : GoodIn wsX2_readFloat wsX2_columnAt := goodIn_ca (goodIn_r _ [6, 7, 8, 9, 57, 58, 59, 60, 61] (by decide +kernel) (by decide +kernel)) (goodIn_sub (fun _ h => List.mem_cons_of_mem _ (List.mem_append_right _ h)) (by decide +kernel))
set_option maxRecDepth 20000 in
theorem gX2_readFloat_X2_columnAt : GoodIn wsX2_readFloat (wsV RX2 62 RX2 yX2_columnAt wsX2_columnAt) := goodIn_app (goodIn_of _ (by decide +kernel)) ggX2_readFloat_X2_columnAt
set_option maxRecDepth 20000 in
theorem ggX2_readFloat_X2_codeOfCell : GoodIn wsX2_readFloat wsX2_codeOfCell := goodIn_r _ [12, 13, 14, 15, 5, 16, 1, 17, 18, 19, 20, 21, 22, 53, 54, 55, 56] (by decide +kernel) (by decide +kernel)
set_option maxRecDepth 20000 in
theorem gX2_readFloat_X2_codeOfCell : GoodIn wsX2_readFloat (va_wsS RX2 83 yX2_codeOfCell wsX2_codeOfCell) := goodIn_app (goodIn_of _ (by decide +kernel)) ggX2_readFloat_X2_codeOfCell
set_option maxRecDepth 20000 in
theorem ggX2_readFloat_X2_note : GoodIn wsX2_readFloat wsX2_note := goodIn_r _ [26, 27, 28, 57, 58, 59, 60, 61] (by decide +kernel) (by decide +kernel)
set_option maxRecDepth 20000 in
theorem gX2_readFloat_X2_note : GoodIn wsX2_readFloat (wsV RX2 72 RX2 yX2_note wsX2_note) := goodIn_app (goodIn_of _ (by decide +kernel)) ggX2_readFloat_X2_note
set_option maxRecDepth 20000 in
theorem ggX2_readFloat_X0_floatAt : GoodIn wsX2_readFloat wsX0_floatAt := goodIn_r _ [33, 34, 35, 5, 36, 37, 38, 39, 32, 40, 41, 42, 43, 44, 45, 46, 47, 48, 49, 50, 51, 52, 53, 54, 55, 56] (by decide +kernel) (by decide +kernel)
set_option maxRecDepth 20000 in
theorem gX2_readFloat_X0_floatAt : GoodIn wsX2_readFloat (wsV RX2 87 RX0 yX0_floatAt wsX0_floatAt) := goodIn_app (goodIn_of _ (by decide +kernel)) ggX2_readFloat_X0_floatAt
theorem dX2_readFloat_0 : decode cX2_readFloat 0 = .ok (.aload_n 0, 1) := by decide +kernel
theorem dX2_readFloat_1 : decode cX2_readFloat 1 = .ok (.iload_n 1, 1) := by decide +kernel
theorem dX2_readFloat_2 : decode cX2_readFloat 2 = .ok (.invokevirtual 62, 3) := by decide +kernel
theorem dX2_readFloat_5 : decode cX2_readFloat 5 = .ok (.astore_n 3, 1) := by decide +kernel
theorem dX2_readFloat_6 : decode cX2_readFloat 6 = .ok (.aload_n 0, 1) := by decide +kernel
theorem dX2_readFloat_7 : decode cX2_readFloat 7 = .ok (.aload_n 3, 1) := by decide +kernel
theorem dX2_readFloat_8 : decode cX2_readFloat 8 = .ok (.iload_n 2, 1) := by decide +kernel
theorem dX2_readFloat_9 : decode cX2_readFloat 9 = .ok (.aload_n 3, 1) := by decide +kernel
theorem dX2_readFloat_10 : decode cX2_readFloat 10 = .ok (.getfield 66, 3) := by decide +kernel
theorem dX2_readFloat_13 : decode cX2_readFloat 13 = .ok (.bipush 7, 2) := by decide +kernel
theorem dX2_readFloat_15 : decode cX2_readFloat 15 = .ok (.invokestatic 83, 3) := by decide +kernel
theorem dX2_readFloat_18 : decode cX2_readFloat 18 = .ok (.invokevirtual 72, 3) := by decide +kernel
theorem dX2_readFloat_21 : decode cX2_readFloat 21 = .ok (.istore 4, 2) := by decide +kernel
theorem dX2_readFloat_23 : decode cX2_readFloat 23 = .ok (.iload 4, 2) := by decide +kernel
theorem dX2_readFloat_25 : decode cX2_readFloat 25 = .ok (.ifCond .ne 11, 3) := by decide +kernel
theorem dX2_readFloat_28 : decode cX2_readFloat 28 = .ok (.aload_n 3, 1) := by decide +kernel
theorem dX2_readFloat_29 : decode cX2_readFloat 29 = .ok (.iload_n 2, 1) := by decide +kernel
theorem dX2_readFloat_30 : decode cX2_readFloat 30 = .ok (.invokevirtual 87, 3) := by decide +kernel
theorem dX2_readFloat_33 : decode cX2_readFloat 33 = .ok (.goto 4, 3) := by decide +kernel
theorem dX2_readFloat_36 : decode cX2_readFloat 36 = .ok (.fconst 0, 1) := by decide +kernel
theorem dX2_readFloat_37 : decode cX2_readFloat 37 = .ok (.freturn, 1) := by decide +kernel
set_option maxRecDepth 20000 in
theorem ggX2_readDouble_X2_columnAt : GoodIn wsX2_readDouble wsX2_columnAt := goodIn_ca (goodIn_r _ [5, 6, 7, 8, 51, 52, 53, 54, 55] (by decide +kernel) (by decide +kernel)) (goodIn_sub (fun _ h => List.mem_cons_of_mem _ (List.mem_append_right _ h)) (by decide +kernel))
set_option maxRecDepth 20000 in
theorem gX2_readDouble_X2_columnAt : GoodIn wsX2_readDouble (wsV RX2 62 RX2 yX2_columnAt wsX2_columnAt) := goodIn_app (goodIn_of _ (by decide +kernel)) ggX2_readDouble_X2_columnAt
set_option maxRecDepth 20000 in
theorem ggX2_readDouble_X2_readReal : GoodIn wsX2_readDouble wsX2_readReal := goodIn_r _ [12, 13, 14, 15, 4, 16, 17, 18, 19, 20, 21, 22, 23, 24, 25, 26, 27, 28, 29, 30, 31, 32, 33, 34, 35, 36, 37, 38, 39, 40, 41, 42, 43, 44, 45, 46, 47, 48, 49, 50, 56, 57, 58, 59, 51, 52, 53, 54, 55] (by decide +kernel) (by decide +kernel)
set_option maxRecDepth 20000 in
theorem gX2_readDouble_X2_readReal : GoodIn wsX2_readDouble (wsV RX2 91 RX2 yX2_readReal wsX2_readReal) := goodIn_app (goodIn_of _ (by decide +kernel)) ggX2_readDouble_X2_readReal
theorem dX2_readDouble_0 : decode cX2_readDouble 0 = .ok (.aload_n 0, 1) := by decide +kernel
theorem dX2_readDouble_1 : decode cX2_readDouble 1 = .ok (.aload_n 0, 1) := by decide +kernel
theorem dX2_readDouble_2 : decode cX2_readDouble 2 = .ok (.iload_n 1, 1) := by decide +kernel
theorem dX2_readDouble_3 : decode cX2_readDouble 3 = .ok (.invokevirtual 62, 3) := by decide +kernel
theorem dX2_readDouble_6 : decode cX2_readDouble 6 = .ok (.iload_n 2, 1) := by decide +kernel
theorem dX2_readDouble_7 : decode cX2_readDouble 7 = .ok (.bipush 8, 2) := by decide +kernel
theorem dX2_readDouble_9 : decode cX2_readDouble 9 = .ok (.invokevirtual 91, 3) := by decide +kernel
theorem dX2_readDouble_12 : decode cX2_readDouble 12 = .ok (.dreturn, 1) := by decide +kernel
set_option maxRecDepth 20000 in
theorem ggX2_readAny_X2_columnAt : GoodIn wsX2_readAny wsX2_columnAt := goodIn_ca (goodIn_r _ [6, 7, 8, 9, 55, 56, 57, 58, 59] (by decide +kernel) (by decide +kernel)) (goodIn_sub (fun _ h => List.mem_cons_of_mem _ (List.mem_append_right _ h)) (by decide +kernel))
set_option maxRecDepth 20000 in
theorem gX2_readAny_X2_columnAt : GoodIn wsX2_readAny (wsV RX2 62 RX2 yX2_columnAt wsX2_columnAt) := goodIn_app (goodIn_of _ (by decide +kernel)) ggX2_readAny_X2_columnAt
set_option maxRecDepth 20000 in
theorem ggX2_readAny_X2_readReal : GoodIn wsX2_readAny wsX2_readReal := goodIn_r _ [13, 1, 14, 15, 5, 16, 17, 18, 19, 20, 21, 22, 23, 24, 25, 26, 27, 28, 29, 30, 31, 32, 33, 34, 35, 36, 37, 38, 39, 40, 41, 42, 43, 44, 45, 46, 47, 48, 49, 50, 51, 52, 53, 54, 55, 56, 57, 58, 59] (by decide +kernel) (by decide +kernel)
set_option maxRecDepth 20000 in
theorem gX2_readAny_X2_readReal : GoodIn wsX2_readAny (wsV RX2 91 RX2 yX2_readReal wsX2_readReal) := goodIn_app (goodIn_of _ (by decide +kernel)) ggX2_readAny_X2_readReal
theorem dX2_readAny_0 : decode cX2_readAny 0 = .ok (.aload_n 0, 1) := by decide +kernel
theorem dX2_readAny_1 : decode cX2_readAny 1 = .ok (.iload_n 1, 1) := by decide +kernel
theorem dX2_readAny_2 : decode cX2_readAny 2 = .ok (.invokevirtual 62, 3) := by decide +kernel
theorem dX2_readAny_5 : decode cX2_readAny 5 = .ok (.astore_n 3, 1) := by decide +kernel
theorem dX2_readAny_6 : decode cX2_readAny 6 = .ok (.aload_n 0, 1) := by decide +kernel
theorem dX2_readAny_7 : decode cX2_readAny 7 = .ok (.aload_n 3, 1) := by decide +kernel
theorem dX2_readAny_8 : decode cX2_readAny 8 = .ok (.iload_n 2, 1) := by decide +kernel
theorem dX2_readAny_9 : decode cX2_readAny 9 = .ok (.aload_n 3, 1) := by decide +kernel
theorem dX2_readAny_10 : decode cX2_readAny 10 = .ok (.getfield 66, 3) := by decide +kernel
theorem dX2_readAny_13 : decode cX2_readAny 13 = .ok (.invokevirtual 91, 3) := by decide +kernel
theorem dX2_readAny_16 : decode cX2_readAny 16 = .ok (.dreturn, 1) := by decide +kernel
set_option maxRecDepth 20000 in
theorem ggX2_writeBoolean_X2_columnAt : GoodIn wsX2_writeBoolean wsX2_columnAt := goodIn_ca (goodIn_r _ [5, 6, 7, 8, 45, 46, 47, 48, 49] (by decide +kernel) (by decide +kernel)) (goodIn_sub (fun _ h => List.mem_cons_of_mem _ (List.mem_append_right _ h)) (by decide +kernel))
set_option maxRecDepth 20000 in
theorem gX2_writeBoolean_X2_columnAt : GoodIn wsX2_writeBoolean (wsV RX2 62 RX2 yX2_columnAt wsX2_columnAt) := goodIn_app (goodIn_of _ (by decide +kernel)) ggX2_writeBoolean_X2_columnAt
set_option maxRecDepth 20000 in
theorem ggX2_writeBoolean_X2_writeWhole : GoodIn wsX2_writeBoolean wsX2_writeWhole := goodIn_r _ [12, 13, 14, 15, 4, 16, 17, 18, 19, 20, 21, 22, 23, 24, 25, 26, 27, 28, 29, 30, 31, 32, 33, 34, 35, 36, 37, 38, 39, 40, 41, 42, 43, 44, 50, 51, 52, 53, 45, 46, 47, 48, 49] (by decide +kernel) (by decide +kernel)
set_option maxRecDepth 20000 in
theorem gX2_writeBoolean_X2_writeWhole : GoodIn wsX2_writeBoolean (wsV RX2 95 RX2 yX2_writeWhole wsX2_writeWhole) := goodIn_app (goodIn_of _ (by decide +kernel)) ggX2_writeBoolean_X2_writeWhole
theorem dX2_writeBoolean_0 : decode cX2_writeBoolean 0 = .ok (.aload_n 0, 1) := by decide +kernel
theorem dX2_writeBoolean_1 : decode cX2_writeBoolean 1 = .ok (.aload_n 0, 1) := by decide +kernel
theorem dX2_writeBoolean_2 : decode cX2_writeBoolean 2 = .ok (.iload_n 1, 1) := by decide +kernel
theorem dX2_writeBoolean_3 : decode cX2_writeBoolean 3 = .ok (.invokevirtual 62, 3) := by decide +kernel
theorem dX2_writeBoolean_6 : decode cX2_writeBoolean 6 = .ok (.iload_n 2, 1) := by decide +kernel
theorem dX2_writeBoolean_7 : decode cX2_writeBoolean 7 = .ok (.iconst 1, 1) := by decide +kernel
theorem dX2_writeBoolean_8 : decode cX2_writeBoolean 8 = .ok (.iload_n 3, 1) := by decide +kernel
theorem dX2_writeBoolean_9 : decode cX2_writeBoolean 9 = .ok (.ifCond .eq 7, 3) := by decide +kernel
theorem dX2_writeBoolean_12 : decode cX2_writeBoolean 12 = .ok (.lconst 1, 1) := by decide +kernel
theorem dX2_writeBoolean_13 : decode cX2_writeBoolean 13 = .ok (.goto 4, 3) := by decide +kernel
theorem dX2_writeBoolean_16 : decode cX2_writeBoolean 16 = .ok (.lconst 0, 1) := by decide +kernel
theorem dX2_writeBoolean_17 : decode cX2_writeBoolean 17 = .ok (.invokevirtual 95, 3) := by decide +kernel
theorem dX2_writeBoolean_20 : decode cX2_writeBoolean 20 = .ok (.ireturn, 1) := by decide +kernel
set_option maxRecDepth 20000 in
theorem ggX2_writeByte_X2_columnAt : GoodIn wsX2_writeByte wsX2_columnAt := goodIn_ca (goodIn_r _ [5, 6, 7, 8, 45, 46, 47, 48, 49] (by decide +kernel) (by decide +kernel)) (goodIn_sub (fun _ h => List.mem_cons_of_mem _ (List.mem_append_right _ h)) (by decide +kernel))
set_option maxRecDepth 20000 in
theorem gX2_writeByte_X2_columnAt : GoodIn wsX2_writeByte (wsV RX2 62 RX2 yX2_columnAt wsX2_columnAt) := goodIn_app (goodIn_of _ (by decide +kernel)) ggX2_writeByte_X2_columnAt
set_option maxRecDepth 20000 in
theorem ggX2_writeByte_X2_writeWhole : GoodIn wsX2_writeByte wsX2_writeWhole := goodIn_r _ [12, 13, 14, 15, 4, 16, 17, 18, 19, 20, 21, 22, 23, 24, 25, 26, 27, 28, 29, 30, 31, 32, 33, 34, 35, 36, 37, 38, 39, 40, 41, 42, 43, 44, 50, 51, 52, 53, 45, 46, 47, 48, 49] (by decide +kernel) (by decide +kernel)
set_option maxRecDepth 20000 in
theorem gX2_writeByte_X2_writeWhole : GoodIn wsX2_writeByte (wsV RX2 95 RX2 yX2_writeWhole wsX2_writeWhole) := goodIn_app (goodIn_of _ (by decide +kernel)) ggX2_writeByte_X2_writeWhole
theorem dX2_writeByte_0 : decode cX2_writeByte 0 = .ok (.aload_n 0, 1) := by decide +kernel
theorem dX2_writeByte_1 : decode cX2_writeByte 1 = .ok (.aload_n 0, 1) := by decide +kernel
theorem dX2_writeByte_2 : decode cX2_writeByte 2 = .ok (.iload_n 1, 1) := by decide +kernel
theorem dX2_writeByte_3 : decode cX2_writeByte 3 = .ok (.invokevirtual 62, 3) := by decide +kernel
theorem dX2_writeByte_6 : decode cX2_writeByte 6 = .ok (.iload_n 2, 1) := by decide +kernel
theorem dX2_writeByte_7 : decode cX2_writeByte 7 = .ok (.iconst 2, 1) := by decide +kernel
theorem dX2_writeByte_8 : decode cX2_writeByte 8 = .ok (.iload_n 3, 1) := by decide +kernel
theorem dX2_writeByte_9 : decode cX2_writeByte 9 = .ok (.i2b, 1) := by decide +kernel
theorem dX2_writeByte_10 : decode cX2_writeByte 10 = .ok (.i2l, 1) := by decide +kernel
theorem dX2_writeByte_11 : decode cX2_writeByte 11 = .ok (.invokevirtual 95, 3) := by decide +kernel
theorem dX2_writeByte_14 : decode cX2_writeByte 14 = .ok (.ireturn, 1) := by decide +kernel
set_option maxRecDepth 20000 in
theorem ggX2_writeChar_X2_columnAt : GoodIn wsX2_writeChar wsX2_columnAt := goodIn_ca (goodIn_r _ [5, 6, 7, 8, 45, 46, 47, 48, 49] (by decide +kernel) (by decide +kernel)) (goodIn_sub (fun _ h => List.mem_cons_of_mem _ (List.mem_append_right _ h)) (by decide +kernel))
set_option maxRecDepth 20000 in
theorem gX2_writeChar_X2_columnAt : GoodIn wsX2_writeChar (wsV RX2 62 RX2 yX2_columnAt wsX2_columnAt) := goodIn_app (goodIn_of _ (by decide +kernel)) ggX2_writeChar_X2_columnAt
set_option maxRecDepth 20000 in
theorem ggX2_writeChar_X2_writeWhole : GoodIn wsX2_writeChar wsX2_writeWhole := goodIn_r _ [12, 13, 14, 15, 4, 16, 17, 18, 19, 20, 21, 22, 23, 24, 25, 26, 27, 28, 29, 30, 31, 32, 33, 34, 35, 36, 37, 38, 39, 40, 41, 42, 43, 44, 50, 51, 52, 53, 45, 46, 47, 48, 49] (by decide +kernel) (by decide +kernel)
set_option maxRecDepth 20000 in
theorem gX2_writeChar_X2_writeWhole : GoodIn wsX2_writeChar (wsV RX2 95 RX2 yX2_writeWhole wsX2_writeWhole) := goodIn_app (goodIn_of _ (by decide +kernel)) ggX2_writeChar_X2_writeWhole
theorem dX2_writeChar_0 : decode cX2_writeChar 0 = .ok (.aload_n 0, 1) := by decide +kernel
theorem dX2_writeChar_1 : decode cX2_writeChar 1 = .ok (.aload_n 0, 1) := by decide +kernel
theorem dX2_writeChar_2 : decode cX2_writeChar 2 = .ok (.iload_n 1, 1) := by decide +kernel
theorem dX2_writeChar_3 : decode cX2_writeChar 3 = .ok (.invokevirtual 62, 3) := by decide +kernel
theorem dX2_writeChar_6 : decode cX2_writeChar 6 = .ok (.iload_n 2, 1) := by decide +kernel
theorem dX2_writeChar_7 : decode cX2_writeChar 7 = .ok (.iconst 3, 1) := by decide +kernel
theorem dX2_writeChar_8 : decode cX2_writeChar 8 = .ok (.iload_n 3, 1) := by decide +kernel
theorem dX2_writeChar_9 : decode cX2_writeChar 9 = .ok (.i2c, 1) := by decide +kernel
theorem dX2_writeChar_10 : decode cX2_writeChar 10 = .ok (.i2l, 1) := by decide +kernel
theorem dX2_writeChar_11 : decode cX2_writeChar 11 = .ok (.invokevirtual 95, 3) := by decide +kernel
theorem dX2_writeChar_14 : decode cX2_writeChar 14 = .ok (.ireturn, 1) := by decide +kernel
set_option maxRecDepth 20000 in
theorem ggX2_writeShort_X2_columnAt : GoodIn wsX2_writeShort wsX2_columnAt := goodIn_ca (goodIn_r _ [5, 6, 7, 8, 45, 46, 47, 48, 49] (by decide +kernel) (by decide +kernel)) (goodIn_sub (fun _ h => List.mem_cons_of_mem _ (List.mem_append_right _ h)) (by decide +kernel))
set_option maxRecDepth 20000 in
theorem gX2_writeShort_X2_columnAt : GoodIn wsX2_writeShort (wsV RX2 62 RX2 yX2_columnAt wsX2_columnAt) := goodIn_app (goodIn_of _ (by decide +kernel)) ggX2_writeShort_X2_columnAt
set_option maxRecDepth 20000 in
theorem ggX2_writeShort_X2_writeWhole : GoodIn wsX2_writeShort wsX2_writeWhole := goodIn_r _ [12, 13, 14, 15, 4, 16, 17, 18, 19, 20, 21, 22, 23, 24, 25, 26, 27, 28, 29, 30, 31, 32, 33, 34, 35, 36, 37, 38, 39, 40, 41, 42, 43, 44, 50, 51, 52, 53, 45, 46, 47, 48, 49] (by decide +kernel) (by decide +kernel)
set_option maxRecDepth 20000 in
theorem gX2_writeShort_X2_writeWhole : GoodIn wsX2_writeShort (wsV RX2 95 RX2 yX2_writeWhole wsX2_writeWhole) := goodIn_app (goodIn_of _ (by decide +kernel)) ggX2_writeShort_X2_writeWhole
theorem dX2_writeShort_0 : decode cX2_writeShort 0 = .ok (.aload_n 0, 1) := by decide +kernel
theorem dX2_writeShort_1 : decode cX2_writeShort 1 = .ok (.aload_n 0, 1) := by decide +kernel
theorem dX2_writeShort_2 : decode cX2_writeShort 2 = .ok (.iload_n 1, 1) := by decide +kernel
theorem dX2_writeShort_3 : decode cX2_writeShort 3 = .ok (.invokevirtual 62, 3) := by decide +kernel
theorem dX2_writeShort_6 : decode cX2_writeShort 6 = .ok (.iload_n 2, 1) := by decide +kernel
theorem dX2_writeShort_7 : decode cX2_writeShort 7 = .ok (.iconst 4, 1) := by decide +kernel
theorem dX2_writeShort_8 : decode cX2_writeShort 8 = .ok (.iload_n 3, 1) := by decide +kernel
theorem dX2_writeShort_9 : decode cX2_writeShort 9 = .ok (.i2s, 1) := by decide +kernel
theorem dX2_writeShort_10 : decode cX2_writeShort 10 = .ok (.i2l, 1) := by decide +kernel
theorem dX2_writeShort_11 : decode cX2_writeShort 11 = .ok (.invokevirtual 95, 3) := by decide +kernel
theorem dX2_writeShort_14 : decode cX2_writeShort 14 = .ok (.ireturn, 1) := by decide +kernel
set_option maxRecDepth 20000 in
theorem ggX2_writeInt_X2_columnAt : GoodIn wsX2_writeInt wsX2_columnAt := goodIn_ca (goodIn_r _ [5, 6, 7, 8, 45, 46, 47, 48, 49] (by decide +kernel) (by decide +kernel)) (goodIn_sub (fun _ h => List.mem_cons_of_mem _ (List.mem_append_right _ h)) (by decide +kernel))
set_option maxRecDepth 20000 in
theorem gX2_writeInt_X2_columnAt : GoodIn wsX2_writeInt (wsV RX2 62 RX2 yX2_columnAt wsX2_columnAt) := goodIn_app (goodIn_of _ (by decide +kernel)) ggX2_writeInt_X2_columnAt
set_option maxRecDepth 20000 in
theorem ggX2_writeInt_X2_writeWhole : GoodIn wsX2_writeInt wsX2_writeWhole := goodIn_r _ [12, 13, 14, 15, 4, 16, 17, 18, 19, 20, 21, 22, 23, 24, 25, 26, 27, 28, 29, 30, 31, 32, 33, 34, 35, 36, 37, 38, 39, 40, 41, 42, 43, 44, 50, 51, 52, 53, 45, 46, 47, 48, 49] (by decide +kernel) (by decide +kernel)
set_option maxRecDepth 20000 in
theorem gX2_writeInt_X2_writeWhole : GoodIn wsX2_writeInt (wsV RX2 95 RX2 yX2_writeWhole wsX2_writeWhole) := goodIn_app (goodIn_of _ (by decide +kernel)) ggX2_writeInt_X2_writeWhole
theorem dX2_writeInt_0 : decode cX2_writeInt 0 = .ok (.aload_n 0, 1) := by decide +kernel
theorem dX2_writeInt_1 : decode cX2_writeInt 1 = .ok (.aload_n 0, 1) := by decide +kernel
theorem dX2_writeInt_2 : decode cX2_writeInt 2 = .ok (.iload_n 1, 1) := by decide +kernel
theorem dX2_writeInt_3 : decode cX2_writeInt 3 = .ok (.invokevirtual 62, 3) := by decide +kernel
theorem dX2_writeInt_6 : decode cX2_writeInt 6 = .ok (.iload_n 2, 1) := by decide +kernel
theorem dX2_writeInt_7 : decode cX2_writeInt 7 = .ok (.iconst 5, 1) := by decide +kernel
theorem dX2_writeInt_8 : decode cX2_writeInt 8 = .ok (.iload_n 3, 1) := by decide +kernel
theorem dX2_writeInt_9 : decode cX2_writeInt 9 = .ok (.i2l, 1) := by decide +kernel
theorem dX2_writeInt_10 : decode cX2_writeInt 10 = .ok (.invokevirtual 95, 3) := by decide +kernel
theorem dX2_writeInt_13 : decode cX2_writeInt 13 = .ok (.ireturn, 1) := by decide +kernel
set_option maxRecDepth 20000 in
theorem ggX2_writeLong_X2_columnAt : GoodIn wsX2_writeLong wsX2_columnAt := goodIn_ca (goodIn_r _ [5, 6, 7, 8, 45, 46, 47, 48, 49] (by decide +kernel) (by decide +kernel)) (goodIn_sub (fun _ h => List.mem_cons_of_mem _ (List.mem_append_right _ h)) (by decide +kernel))
set_option maxRecDepth 20000 in
theorem gX2_writeLong_X2_columnAt : GoodIn wsX2_writeLong (wsV RX2 62 RX2 yX2_columnAt wsX2_columnAt) := goodIn_app (goodIn_of _ (by decide +kernel)) ggX2_writeLong_X2_columnAt
set_option maxRecDepth 20000 in
theorem ggX2_writeLong_X2_writeWhole : GoodIn wsX2_writeLong wsX2_writeWhole := goodIn_r _ [12, 13, 14, 15, 4, 16, 17, 18, 19, 20, 21, 22, 23, 24, 25, 26, 27, 28, 29, 30, 31, 32, 33, 34, 35, 36, 37, 38, 39, 40, 41, 42, 43, 44, 50, 51, 52, 53, 45, 46, 47, 48, 49] (by decide +kernel) (by decide +kernel)
set_option maxRecDepth 20000 in
theorem gX2_writeLong_X2_writeWhole : GoodIn wsX2_writeLong (wsV RX2 95 RX2 yX2_writeWhole wsX2_writeWhole) := goodIn_app (goodIn_of _ (by decide +kernel)) ggX2_writeLong_X2_writeWhole
theorem dX2_writeLong_0 : decode cX2_writeLong 0 = .ok (.aload_n 0, 1) := by decide +kernel
theorem dX2_writeLong_1 : decode cX2_writeLong 1 = .ok (.aload_n 0, 1) := by decide +kernel
theorem dX2_writeLong_2 : decode cX2_writeLong 2 = .ok (.iload_n 1, 1) := by decide +kernel
theorem dX2_writeLong_3 : decode cX2_writeLong 3 = .ok (.invokevirtual 62, 3) := by decide +kernel
theorem dX2_writeLong_6 : decode cX2_writeLong 6 = .ok (.iload_n 2, 1) := by decide +kernel
theorem dX2_writeLong_7 : decode cX2_writeLong 7 = .ok (.bipush 6, 2) := by decide +kernel
theorem dX2_writeLong_9 : decode cX2_writeLong 9 = .ok (.lload_n 3, 1) := by decide +kernel
theorem dX2_writeLong_10 : decode cX2_writeLong 10 = .ok (.invokevirtual 95, 3) := by decide +kernel
theorem dX2_writeLong_13 : decode cX2_writeLong 13 = .ok (.ireturn, 1) := by decide +kernel
set_option maxRecDepth 20000 in
theorem ggX2_writeFloat_X2_columnAt : GoodIn wsX2_writeFloat wsX2_columnAt := goodIn_ca (goodIn_r _ [5, 6, 7, 8, 46, 47, 48, 49, 50] (by decide +kernel) (by decide +kernel)) (goodIn_sub (fun _ h => List.mem_cons_of_mem _ (List.mem_append_right _ h)) (by decide +kernel))
set_option maxRecDepth 20000 in
theorem gX2_writeFloat_X2_columnAt : GoodIn wsX2_writeFloat (wsV RX2 62 RX2 yX2_columnAt wsX2_columnAt) := goodIn_app (goodIn_of _ (by decide +kernel)) ggX2_writeFloat_X2_columnAt
set_option maxRecDepth 20000 in
theorem ggX2_writeFloat_X2_doubleOf : GoodIn wsX2_writeFloat wsX2_doubleOf := goodIn_r _ [11, 12, 13, 4, 14, 15] (by decide +kernel) (by decide +kernel)
set_option maxRecDepth 20000 in
theorem gX2_writeFloat_X2_doubleOf : GoodIn wsX2_writeFloat (va_wsS RX2 99 yX2_doubleOf wsX2_doubleOf) := goodIn_app (goodIn_of _ (by decide +kernel)) ggX2_writeFloat_X2_doubleOf
set_option maxRecDepth 20000 in
theorem ggX2_writeFloat_X2_writeReal : GoodIn wsX2_writeFloat wsX2_writeReal := goodIn_r _ [19, 20, 21, 22, 4, 23, 24, 25, 26, 27, 28, 29, 30, 31, 32, 33, 34, 35, 36, 37, 38, 39, 40, 41, 42, 43, 44, 45, 51, 52, 53, 54, 46, 47, 48, 49, 50] (by decide +kernel) (by decide +kernel)
set_option maxRecDepth 20000 in
theorem gX2_writeFloat_X2_writeReal : GoodIn wsX2_writeFloat (wsV RX2 103 RX2 yX2_writeReal wsX2_writeReal) := goodIn_app (goodIn_of _ (by decide +kernel)) ggX2_writeFloat_X2_writeReal
theorem dX2_writeFloat_0 : decode cX2_writeFloat 0 = .ok (.aload_n 0, 1) := by decide +kernel
theorem dX2_writeFloat_1 : decode cX2_writeFloat 1 = .ok (.aload_n 0, 1) := by decide +kernel
theorem dX2_writeFloat_2 : decode cX2_writeFloat 2 = .ok (.iload_n 1, 1) := by decide +kernel
theorem dX2_writeFloat_3 : decode cX2_writeFloat 3 = .ok (.invokevirtual 62, 3) := by decide +kernel
theorem dX2_writeFloat_6 : decode cX2_writeFloat 6 = .ok (.iload_n 2, 1) := by decide +kernel
theorem dX2_writeFloat_7 : decode cX2_writeFloat 7 = .ok (.bipush 7, 2) := by decide +kernel
theorem dX2_writeFloat_9 : decode cX2_writeFloat 9 = .ok (.fload_n 3, 1) := by decide +kernel
theorem dX2_writeFloat_10 : decode cX2_writeFloat 10 = .ok (.invokestatic 99, 3) := by decide +kernel
theorem dX2_writeFloat_13 : decode cX2_writeFloat 13 = .ok (.invokevirtual 103, 3) := by decide +kernel
theorem dX2_writeFloat_16 : decode cX2_writeFloat 16 = .ok (.ireturn, 1) := by decide +kernel
set_option maxRecDepth 20000 in
theorem ggX2_writeDouble_X2_columnAt : GoodIn wsX2_writeDouble wsX2_columnAt := goodIn_ca (goodIn_r _ [5, 6, 7, 8, 39, 40, 41, 42, 43] (by decide +kernel) (by decide +kernel)) (goodIn_sub (fun _ h => List.mem_cons_of_mem _ (List.mem_append_right _ h)) (by decide +kernel))
set_option maxRecDepth 20000 in
theorem gX2_writeDouble_X2_columnAt : GoodIn wsX2_writeDouble (wsV RX2 62 RX2 yX2_columnAt wsX2_columnAt) := goodIn_app (goodIn_of _ (by decide +kernel)) ggX2_writeDouble_X2_columnAt
set_option maxRecDepth 20000 in
theorem ggX2_writeDouble_X2_writeReal : GoodIn wsX2_writeDouble wsX2_writeReal := goodIn_r _ [12, 13, 14, 15, 4, 16, 17, 18, 19, 20, 21, 22, 23, 24, 25, 26, 27, 28, 29, 30, 31, 32, 33, 34, 35, 36, 37, 38, 44, 45, 46, 47, 39, 40, 41, 42, 43] (by decide +kernel) (by decide +kernel)
set_option maxRecDepth 20000 in
theorem gX2_writeDouble_X2_writeReal : GoodIn wsX2_writeDouble (wsV RX2 103 RX2 yX2_writeReal wsX2_writeReal) := goodIn_app (goodIn_of _ (by decide +kernel)) ggX2_writeDouble_X2_writeReal
theorem dX2_writeDouble_0 : decode cX2_writeDouble 0 = .ok (.aload_n 0, 1) := by decide +kernel
theorem dX2_writeDouble_1 : decode cX2_writeDouble 1 = .ok (.aload_n 0, 1) := by decide +kernel
theorem dX2_writeDouble_2 : decode cX2_writeDouble 2 = .ok (.iload_n 1, 1) := by decide +kernel
theorem dX2_writeDouble_3 : decode cX2_writeDouble 3 = .ok (.invokevirtual 62, 3) := by decide +kernel
theorem dX2_writeDouble_6 : decode cX2_writeDouble 6 = .ok (.iload_n 2, 1) := by decide +kernel
theorem dX2_writeDouble_7 : decode cX2_writeDouble 7 = .ok (.bipush 8, 2) := by decide +kernel
theorem dX2_writeDouble_9 : decode cX2_writeDouble 9 = .ok (.dload_n 3, 1) := by decide +kernel
theorem dX2_writeDouble_10 : decode cX2_writeDouble 10 = .ok (.invokevirtual 103, 3) := by decide +kernel
theorem dX2_writeDouble_13 : decode cX2_writeDouble 13 = .ok (.ireturn, 1) := by decide +kernel
set_option maxRecDepth 20000 in
theorem ggX2_writeAny_X2_columnAt : GoodIn wsX2_writeAny wsX2_columnAt := goodIn_ca (goodIn_r _ [5, 6, 7, 8, 58, 59, 60, 61, 62] (by decide +kernel) (by decide +kernel)) (goodIn_sub (fun _ h => List.mem_cons_of_mem _ (List.mem_append_left _ (List.mem_append_right _ h))) (by decide +kernel))
set_option maxRecDepth 20000 in
theorem gX2_writeAny_X2_columnAt : GoodIn wsX2_writeAny (wsV RX2 62 RX2 yX2_columnAt wsX2_columnAt) := goodIn_app (goodIn_of _ (by decide +kernel)) ggX2_writeAny_X2_columnAt
set_option maxRecDepth 20000 in
theorem ggX2_writeAny_X2_refuseWithoutCells : GoodIn wsX2_writeAny wsX2_refuseWithoutCells := goodIn_ca (goodIn_r _ [11, 12, 13, 14, 15, 4, 16] (by decide +kernel) (by decide +kernel)) (goodIn_sub (fun _ h => List.mem_cons_of_mem _ (List.mem_append_right _ h)) (by decide +kernel))
set_option maxRecDepth 20000 in
theorem gX2_writeAny_X2_refuseWithoutCells : GoodIn wsX2_writeAny (va_wsS RX2 107 yX2_refuseWithoutCells wsX2_refuseWithoutCells) := goodIn_app (goodIn_of _ (by decide +kernel)) ggX2_writeAny_X2_refuseWithoutCells
set_option maxRecDepth 20000 in
theorem ggX2_writeAny_X2_writeReal : GoodIn wsX2_writeAny wsX2_writeReal := goodIn_r _ [20, 21, 22, 23, 4, 24, 25, 26, 27, 28, 29, 30, 31, 14, 15, 16, 32, 33, 34, 35, 36, 37, 38, 39, 40, 41, 42, 43, 63, 64, 65, 66, 58, 59, 60, 61, 62] (by decide +kernel) (by decide +kernel)
set_option maxRecDepth 20000 in
theorem gX2_writeAny_X2_writeReal : GoodIn wsX2_writeAny (wsV RX2 103 RX2 yX2_writeReal wsX2_writeReal) := goodIn_app (goodIn_of _ (by decide +kernel)) ggX2_writeAny_X2_writeReal
set_option maxRecDepth 20000 in
theorem ggX2_writeAny_X2_wholeMadeFrom : GoodIn wsX2_writeAny wsX2_wholeMadeFrom := goodIn_r _ [46] (by decide +kernel) (by decide +kernel)
set_option maxRecDepth 20000 in
theorem gX2_writeAny_X2_wholeMadeFrom : GoodIn wsX2_writeAny (va_wsS RX2 111 yX2_wholeMadeFrom wsX2_wholeMadeFrom) := goodIn_app (goodIn_of _ (by decide +kernel)) ggX2_writeAny_X2_wholeMadeFrom
set_option maxRecDepth 20000 in
theorem ggX2_writeAny_X2_writeWhole : GoodIn wsX2_writeAny wsX2_writeWhole := goodIn_r _ [50, 21, 22, 23, 4, 24, 25, 26, 27, 28, 29, 30, 31, 14, 15, 16, 32, 33, 34, 35, 36, 37, 51, 52, 53, 41, 54, 55, 56, 57, 39, 40, 42, 43, 63, 64, 65, 66, 58, 59, 60, 61, 62] (by decide +kernel) (by decide +kernel)
set_option maxRecDepth 20000 in
theorem gX2_writeAny_X2_writeWhole : GoodIn wsX2_writeAny (wsV RX2 95 RX2 yX2_writeWhole wsX2_writeWhole) := goodIn_app (goodIn_of _ (by decide +kernel)) ggX2_writeAny_X2_writeWhole
theorem dX2_writeAny_0 : decode cX2_writeAny 0 = .ok (.aload_n 0, 1) := by decide +kernel
theorem dX2_writeAny_1 : decode cX2_writeAny 1 = .ok (.iload_n 1, 1) := by decide +kernel
theorem dX2_writeAny_2 : decode cX2_writeAny 2 = .ok (.invokevirtual 62, 3) := by decide +kernel
theorem dX2_writeAny_5 : decode cX2_writeAny 5 = .ok (.astore 5, 2) := by decide +kernel
theorem dX2_writeAny_7 : decode cX2_writeAny 7 = .ok (.iload_n 3, 1) := by decide +kernel
theorem dX2_writeAny_8 : decode cX2_writeAny 8 = .ok (.invokestatic 107, 3) := by decide +kernel
theorem dX2_writeAny_11 : decode cX2_writeAny 11 = .ok (.iload_n 3, 1) := by decide +kernel
theorem dX2_writeAny_12 : decode cX2_writeAny 12 = .ok (.bipush 7, 2) := by decide +kernel
theorem dX2_writeAny_14 : decode cX2_writeAny 14 = .ok (.if_icmp .ne 16, 3) := by decide +kernel
theorem dX2_writeAny_17 : decode cX2_writeAny 17 = .ok (.aload_n 0, 1) := by decide +kernel
theorem dX2_writeAny_18 : decode cX2_writeAny 18 = .ok (.aload 5, 2) := by decide +kernel
theorem dX2_writeAny_20 : decode cX2_writeAny 20 = .ok (.iload_n 2, 1) := by decide +kernel
theorem dX2_writeAny_21 : decode cX2_writeAny 21 = .ok (.iload_n 3, 1) := by decide +kernel
theorem dX2_writeAny_22 : decode cX2_writeAny 22 = .ok (.iload 4, 2) := by decide +kernel
theorem dX2_writeAny_24 : decode cX2_writeAny 24 = .ok (.i2f, 1) := by decide +kernel
theorem dX2_writeAny_25 : decode cX2_writeAny 25 = .ok (.f2d, 1) := by decide +kernel
theorem dX2_writeAny_26 : decode cX2_writeAny 26 = .ok (.invokevirtual 103, 3) := by decide +kernel
theorem dX2_writeAny_29 : decode cX2_writeAny 29 = .ok (.ireturn, 1) := by decide +kernel
theorem dX2_writeAny_30 : decode cX2_writeAny 30 = .ok (.iload_n 3, 1) := by decide +kernel
theorem dX2_writeAny_31 : decode cX2_writeAny 31 = .ok (.bipush 8, 2) := by decide +kernel
theorem dX2_writeAny_33 : decode cX2_writeAny 33 = .ok (.if_icmp .ne 15, 3) := by decide +kernel
theorem dX2_writeAny_36 : decode cX2_writeAny 36 = .ok (.aload_n 0, 1) := by decide +kernel
theorem dX2_writeAny_37 : decode cX2_writeAny 37 = .ok (.aload 5, 2) := by decide +kernel
theorem dX2_writeAny_39 : decode cX2_writeAny 39 = .ok (.iload_n 2, 1) := by decide +kernel
theorem dX2_writeAny_40 : decode cX2_writeAny 40 = .ok (.iload_n 3, 1) := by decide +kernel
theorem dX2_writeAny_41 : decode cX2_writeAny 41 = .ok (.iload 4, 2) := by decide +kernel
theorem dX2_writeAny_43 : decode cX2_writeAny 43 = .ok (.i2d, 1) := by decide +kernel
theorem dX2_writeAny_44 : decode cX2_writeAny 44 = .ok (.invokevirtual 103, 3) := by decide +kernel
theorem dX2_writeAny_47 : decode cX2_writeAny 47 = .ok (.ireturn, 1) := by decide +kernel
theorem dX2_writeAny_48 : decode cX2_writeAny 48 = .ok (.aload_n 0, 1) := by decide +kernel
theorem dX2_writeAny_49 : decode cX2_writeAny 49 = .ok (.aload 5, 2) := by decide +kernel
theorem dX2_writeAny_51 : decode cX2_writeAny 51 = .ok (.iload_n 2, 1) := by decide +kernel
theorem dX2_writeAny_52 : decode cX2_writeAny 52 = .ok (.iload_n 3, 1) := by decide +kernel
theorem dX2_writeAny_53 : decode cX2_writeAny 53 = .ok (.iload 4, 2) := by decide +kernel
theorem dX2_writeAny_55 : decode cX2_writeAny 55 = .ok (.iload_n 3, 1) := by decide +kernel
theorem dX2_writeAny_56 : decode cX2_writeAny 56 = .ok (.invokestatic 111, 3) := by decide +kernel
theorem dX2_writeAny_59 : decode cX2_writeAny 59 = .ok (.invokevirtual 95, 3) := by decide +kernel
theorem dX2_writeAny_62 : decode cX2_writeAny 62 = .ok (.ireturn, 1) := by decide +kernel
set_option maxRecDepth 20000 in
theorem ggX2_copy_X2_columnAt : GoodIn wsX2_copy wsX2_columnAt := goodIn_ca (goodIn_r _ [6, 7, 8, 9, 38, 39, 40, 41, 42] (by decide +kernel) (by decide +kernel)) (goodIn_sub (fun _ h => List.mem_cons_of_mem _ (List.mem_append_right _ h)) (by decide +kernel))
set_option maxRecDepth 20000 in
theorem gX2_copy_X2_columnAt : GoodIn wsX2_copy (wsV RX2 62 RX2 yX2_columnAt wsX2_columnAt) := goodIn_app (goodIn_of _ (by decide +kernel)) ggX2_copy_X2_columnAt
set_option maxRecDepth 20000 in
theorem ggX2_copy_X2_codeOfKinds : GoodIn wsX2_copy wsX2_codeOfKinds := goodIn_r _ [12, 13, 34, 35, 36, 37] (by decide +kernel) (by decide +kernel)
set_option maxRecDepth 20000 in
theorem gX2_copy_X2_codeOfKinds : GoodIn wsX2_copy (va_wsS RX2 115 yX2_codeOfKinds wsX2_codeOfKinds) := goodIn_app (goodIn_of _ (by decide +kernel)) ggX2_copy_X2_codeOfKinds
set_option maxRecDepth 20000 in
theorem ggX2_copy_X2_isPart : GoodIn wsX2_copy wsX2_isPart := goodIn_r _ [16] (by decide +kernel) (by decide +kernel)
set_option maxRecDepth 20000 in
theorem gX2_copy_X2_isPart : GoodIn wsX2_copy (va_wsS RX2 119 yX2_isPart wsX2_isPart) := goodIn_app (goodIn_of _ (by decide +kernel)) ggX2_copy_X2_isPart
set_option maxRecDepth 20000 in
theorem ggX2_copy_X0_takeCells : GoodIn wsX2_copy wsX0_takeCells := goodIn_r _ [21, 22, 23, 24, 25, 26, 27, 15, 5, 16, 34, 35, 36, 37] (by decide +kernel) (by decide +kernel)
set_option maxRecDepth 20000 in
theorem gX2_copy_X0_takeCells : GoodIn wsX2_copy (wsV RX2 123 RX0 yX0_takeCells wsX0_takeCells) := goodIn_app (goodIn_of _ (by decide +kernel)) ggX2_copy_X0_takeCells
set_option maxRecDepth 20000 in
theorem ggX2_copy_X2_note : GoodIn wsX2_copy wsX2_note := goodIn_r _ [31, 32, 33, 38, 39, 40, 41, 42] (by decide +kernel) (by decide +kernel)
set_option maxRecDepth 20000 in
theorem gX2_copy_X2_note : GoodIn wsX2_copy (wsV RX2 72 RX2 yX2_note wsX2_note) := goodIn_app (goodIn_of _ (by decide +kernel)) ggX2_copy_X2_note
theorem dX2_copy_0 : decode cX2_copy 0 = .ok (.aload_n 0, 1) := by decide +kernel
theorem dX2_copy_1 : decode cX2_copy 1 = .ok (.iload_n 1, 1) := by decide +kernel
theorem dX2_copy_2 : decode cX2_copy 2 = .ok (.invokevirtual 62, 3) := by decide +kernel
theorem dX2_copy_5 : decode cX2_copy 5 = .ok (.astore 6, 2) := by decide +kernel
theorem dX2_copy_7 : decode cX2_copy 7 = .ok (.aload_n 0, 1) := by decide +kernel
theorem dX2_copy_8 : decode cX2_copy 8 = .ok (.iload_n 3, 1) := by decide +kernel
theorem dX2_copy_9 : decode cX2_copy 9 = .ok (.invokevirtual 62, 3) := by decide +kernel
theorem dX2_copy_12 : decode cX2_copy 12 = .ok (.astore 7, 2) := by decide +kernel
theorem dX2_copy_14 : decode cX2_copy 14 = .ok (.aload 6, 2) := by decide +kernel
theorem dX2_copy_16 : decode cX2_copy 16 = .ok (.aload 7, 2) := by decide +kernel
theorem dX2_copy_18 : decode cX2_copy 18 = .ok (.invokestatic 115, 3) := by decide +kernel
theorem dX2_copy_21 : decode cX2_copy 21 = .ok (.istore 8, 2) := by decide +kernel
theorem dX2_copy_23 : decode cX2_copy 23 = .ok (.iload 8, 2) := by decide +kernel
theorem dX2_copy_25 : decode cX2_copy 25 = .ok (.ifCond .ne 35, 3) := by decide +kernel
theorem dX2_copy_28 : decode cX2_copy 28 = .ok (.iload_n 2, 1) := by decide +kernel
theorem dX2_copy_29 : decode cX2_copy 29 = .ok (.iload 5, 2) := by decide +kernel
theorem dX2_copy_31 : decode cX2_copy 31 = .ok (.aload 6, 2) := by decide +kernel
theorem dX2_copy_33 : decode cX2_copy 33 = .ok (.getfield 76, 3) := by decide +kernel
theorem dX2_copy_36 : decode cX2_copy 36 = .ok (.invokestatic 119, 3) := by decide +kernel
theorem dX2_copy_39 : decode cX2_copy 39 = .ok (.ifCond .eq 18, 3) := by decide +kernel
theorem dX2_copy_42 : decode cX2_copy 42 = .ok (.iload 4, 2) := by decide +kernel
theorem dX2_copy_44 : decode cX2_copy 44 = .ok (.iload 5, 2) := by decide +kernel
theorem dX2_copy_46 : decode cX2_copy 46 = .ok (.aload 7, 2) := by decide +kernel
theorem dX2_copy_48 : decode cX2_copy 48 = .ok (.getfield 76, 3) := by decide +kernel
theorem dX2_copy_51 : decode cX2_copy 51 = .ok (.invokestatic 119, 3) := by decide +kernel
theorem dX2_copy_54 : decode cX2_copy 54 = .ok (.ifCond .ne 6, 3) := by decide +kernel
theorem dX2_copy_57 : decode cX2_copy 57 = .ok (.iconst 3, 1) := by decide +kernel
theorem dX2_copy_58 : decode cX2_copy 58 = .ok (.istore 8, 2) := by decide +kernel
theorem dX2_copy_60 : decode cX2_copy 60 = .ok (.iload 8, 2) := by decide +kernel
theorem dX2_copy_62 : decode cX2_copy 62 = .ok (.ifCond .ne 15, 3) := by decide +kernel
theorem dX2_copy_65 : decode cX2_copy 65 = .ok (.aload 7, 2) := by decide +kernel
theorem dX2_copy_67 : decode cX2_copy 67 = .ok (.aload 6, 2) := by decide +kernel
theorem dX2_copy_69 : decode cX2_copy 69 = .ok (.iload_n 2, 1) := by decide +kernel
theorem dX2_copy_70 : decode cX2_copy 70 = .ok (.iload 4, 2) := by decide +kernel
theorem dX2_copy_72 : decode cX2_copy 72 = .ok (.iload 5, 2) := by decide +kernel
theorem dX2_copy_74 : decode cX2_copy 74 = .ok (.invokevirtual 123, 3) := by decide +kernel
theorem dX2_copy_77 : decode cX2_copy 77 = .ok (.aload_n 0, 1) := by decide +kernel
theorem dX2_copy_78 : decode cX2_copy 78 = .ok (.iload 8, 2) := by decide +kernel
theorem dX2_copy_80 : decode cX2_copy 80 = .ok (.invokevirtual 72, 3) := by decide +kernel
theorem dX2_copy_83 : decode cX2_copy 83 = .ok (.ireturn, 1) := by decide +kernel
set_option maxRecDepth 20000 in
theorem ggX2_total_X2_columnAt : GoodIn wsX2_total wsX2_columnAt := goodIn_ca (goodIn_r _ [5, 6, 7, 8, 53, 54, 55, 56, 57] (by decide +kernel) (by decide +kernel)) (goodIn_sub (fun _ h => List.mem_cons_of_mem _ (List.mem_append_right _ h)) (by decide +kernel))
set_option maxRecDepth 20000 in
theorem gX2_total_X2_columnAt : GoodIn wsX2_total (wsV RX2 62 RX2 yX2_columnAt wsX2_columnAt) := goodIn_app (goodIn_of _ (by decide +kernel)) ggX2_total_X2_columnAt
set_option maxRecDepth 20000 in
theorem ggX2_total_X2_codeOfColumn : GoodIn wsX2_total wsX2_codeOfColumn := goodIn_r _ [11, 12, 58, 59, 60, 61] (by decide +kernel) (by decide +kernel)
set_option maxRecDepth 20000 in
theorem gX2_total_X2_codeOfColumn : GoodIn wsX2_total (va_wsS RX2 69 yX2_codeOfColumn wsX2_codeOfColumn) := goodIn_app (goodIn_of _ (by decide +kernel)) ggX2_total_X2_codeOfColumn
set_option maxRecDepth 20000 in
theorem ggX2_total_X2_note : GoodIn wsX2_total wsX2_note := goodIn_r _ [16, 17, 18, 53, 54, 55, 56, 57] (by decide +kernel) (by decide +kernel)
set_option maxRecDepth 20000 in
theorem gX2_total_X2_note : GoodIn wsX2_total (wsV RX2 72 RX2 yX2_note wsX2_note) := goodIn_app (goodIn_of _ (by decide +kernel)) ggX2_total_X2_note
set_option maxRecDepth 20000 in
theorem ggX2_total_X0_sum : GoodIn wsX2_total wsX0_sum := goodIn_r _ [23, 24, 25, 26, 27, 22, 28, 29, 30, 4, 31, 32, 33, 34, 35, 36, 37, 38, 39, 40, 41, 42, 43, 44, 45, 46, 47, 48, 49, 50, 51, 52, 58, 59, 60, 61] (by decide +kernel) (by decide +kernel)
set_option maxRecDepth 20000 in
theorem gX2_total_X0_sum : GoodIn wsX2_total (wsV RX2 127 RX0 yX0_sum wsX0_sum) := goodIn_app (goodIn_of _ (by decide +kernel)) ggX2_total_X0_sum
theorem dX2_total_0 : decode cX2_total 0 = .ok (.aload_n 0, 1) := by decide +kernel
theorem dX2_total_1 : decode cX2_total 1 = .ok (.iload_n 1, 1) := by decide +kernel
theorem dX2_total_2 : decode cX2_total 2 = .ok (.invokevirtual 62, 3) := by decide +kernel
theorem dX2_total_5 : decode cX2_total 5 = .ok (.astore_n 2, 1) := by decide +kernel
theorem dX2_total_6 : decode cX2_total 6 = .ok (.aload_n 0, 1) := by decide +kernel
theorem dX2_total_7 : decode cX2_total 7 = .ok (.aload_n 2, 1) := by decide +kernel
theorem dX2_total_8 : decode cX2_total 8 = .ok (.invokestatic 69, 3) := by decide +kernel
theorem dX2_total_11 : decode cX2_total 11 = .ok (.invokevirtual 72, 3) := by decide +kernel
theorem dX2_total_14 : decode cX2_total 14 = .ok (.istore_n 3, 1) := by decide +kernel
theorem dX2_total_15 : decode cX2_total 15 = .ok (.iload_n 3, 1) := by decide +kernel
theorem dX2_total_16 : decode cX2_total 16 = .ok (.ifCond .ne 10, 3) := by decide +kernel
theorem dX2_total_19 : decode cX2_total 19 = .ok (.aload_n 2, 1) := by decide +kernel
theorem dX2_total_20 : decode cX2_total 20 = .ok (.invokevirtual 127, 3) := by decide +kernel
theorem dX2_total_23 : decode cX2_total 23 = .ok (.goto 4, 3) := by decide +kernel
theorem dX2_total_26 : decode cX2_total 26 = .ok (.dconst 0, 1) := by decide +kernel
theorem dX2_total_27 : decode cX2_total 27 = .ok (.dreturn, 1) := by decide +kernel
set_option maxRecDepth 20000 in
theorem ggX2_widened_X2_columnAt : GoodIn wsX2_widened wsX2_columnAt := goodIn_ca (goodIn_r _ [10, 11, 12, 13, 85, 86, 87, 88, 89] (by decide +kernel) (by decide +kernel)) (goodIn_sub (fun _ h => List.mem_cons_of_mem _ (List.mem_append_left _ (List.mem_append_left _ (List.mem_append_right _ h)))) (by decide +kernel))
set_option maxRecDepth 20000 in
theorem gX2_widened_X2_columnAt : GoodIn wsX2_widened (wsV RX2 62 RX2 yX2_columnAt wsX2_columnAt) := goodIn_app (goodIn_of _ (by decide +kernel)) ggX2_widened_X2_columnAt
set_option maxRecDepth 20000 in
theorem ggX2_widened_X2_refuseWithoutCells : GoodIn wsX2_widened wsX2_refuseWithoutCells := goodIn_ca (goodIn_r _ [16, 17, 18, 19, 20, 9, 21] (by decide +kernel) (by decide +kernel)) (goodIn_sub (fun _ h => List.mem_cons_of_mem _ (List.mem_append_left _ (List.mem_append_right _ h))) (by decide +kernel))
set_option maxRecDepth 20000 in
theorem gX2_widened_X2_refuseWithoutCells : GoodIn wsX2_widened (va_wsS RX2 107 yX2_refuseWithoutCells wsX2_refuseWithoutCells) := goodIn_app (goodIn_of _ (by decide +kernel)) ggX2_widened_X2_refuseWithoutCells
set_option maxRecDepth 20000 in
theorem ggX2_widened_X2_refuseWhenFull : GoodIn wsX2_widened wsX2_refuseWhenFull := goodIn_ca (goodIn_r _ [25, 26, 27, 28, 13, 85, 86, 87, 88, 89] (by decide +kernel) (by decide +kernel)) (goodIn_sub (fun _ h => List.mem_cons_of_mem _ (List.mem_append_right _ h)) (by decide +kernel))
set_option maxRecDepth 20000 in
theorem gX2_widened_X2_refuseWhenFull : GoodIn wsX2_widened (wsV RX2 52 RX2 yX2_refuseWhenFull wsX2_refuseWhenFull) := goodIn_app (goodIn_of _ (by decide +kernel)) ggX2_widened_X2_refuseWhenFull
set_option maxRecDepth 20000 in
theorem ggX2_widened_X2_codeOfColumn : GoodIn wsX2_widened wsX2_codeOfColumn := goodIn_r _ [31, 1, 81, 82, 83, 84] (by decide +kernel) (by decide +kernel)
set_option maxRecDepth 20000 in
theorem gX2_widened_X2_codeOfColumn : GoodIn wsX2_widened (va_wsS RX2 69 yX2_codeOfColumn wsX2_codeOfColumn) := goodIn_app (goodIn_of _ (by decide +kernel)) ggX2_widened_X2_codeOfColumn
set_option maxRecDepth 20000 in
theorem ggX2_widened_X2_widens : GoodIn wsX2_widened wsX2_widens := goodIn_r _ [34, 19, 20, 9, 21] (by decide +kernel) (by decide +kernel)
set_option maxRecDepth 20000 in
theorem gX2_widened_X2_widens : GoodIn wsX2_widened (va_wsS RX2 131 yX2_widens wsX2_widens) := goodIn_app (goodIn_of _ (by decide +kernel)) ggX2_widened_X2_widens
set_option maxRecDepth 20000 in
theorem ggX2_widened_X2_note : GoodIn wsX2_widened wsX2_note := goodIn_r _ [38, 39, 40, 85, 86, 87, 88, 89] (by decide +kernel) (by decide +kernel)
set_option maxRecDepth 20000 in
theorem gX2_widened_X2_note : GoodIn wsX2_widened (wsV RX2 72 RX2 yX2_note wsX2_note) := goodIn_app (goodIn_of _ (by decide +kernel)) ggX2_widened_X2_note
set_option maxRecDepth 20000 in
theorem ggX2_widened_X0_init : GoodIn wsX2_widened wsX0_init := goodIn_r _ [43, 44, 45, 46, 47, 48, 49, 50, 51, 52, 20, 9, 21, 53, 54, 55, 56, 81, 82, 83, 84] (by decide +kernel) (by decide +kernel)
set_option maxRecDepth 20000 in
theorem gX2_widened_X0_init : GoodIn wsX2_widened (wsX0_init) := ggX2_widened_X0_init
set_option maxRecDepth 20000 in
theorem ggX2_widened_X0_takeWidened : GoodIn wsX2_widened wsX0_takeWidened := goodIn_r _ [60, 48, 47, 55, 9, 56, 61, 62, 63, 4, 64, 52, 65, 66, 67, 68, 69, 70, 71, 72, 50, 73, 74, 75, 76, 81, 82, 83, 84] (by decide +kernel) (by decide +kernel)
set_option maxRecDepth 20000 in
theorem gX2_widened_X0_takeWidened : GoodIn wsX2_widened (wsV RX2 135 RX0 yX0_takeWidened wsX0_takeWidened) := goodIn_app (goodIn_of _ (by decide +kernel)) ggX2_widened_X0_takeWidened
set_option maxRecDepth 20000 in
theorem ggX2_widened_X2_addColumn : GoodIn wsX2_widened wsX2_addColumn := goodIn_r _ [80, 28, 13, 85, 86, 87, 88, 89] (by decide +kernel) (by decide +kernel)
set_option maxRecDepth 20000 in
theorem gX2_widened_X2_addColumn : GoodIn wsX2_widened (wsV RX2 58 RX2 yX2_addColumn wsX2_addColumn) := goodIn_app (goodIn_of _ (by decide +kernel)) ggX2_widened_X2_addColumn
theorem dX2_widened_0 : decode cX2_widened 0 = .ok (.aload_n 0, 1) := by decide +kernel
theorem dX2_widened_1 : decode cX2_widened 1 = .ok (.iload_n 1, 1) := by decide +kernel
theorem dX2_widened_2 : decode cX2_widened 2 = .ok (.invokevirtual 62, 3) := by decide +kernel
theorem dX2_widened_5 : decode cX2_widened 5 = .ok (.astore_n 3, 1) := by decide +kernel
theorem dX2_widened_6 : decode cX2_widened 6 = .ok (.iload_n 2, 1) := by decide +kernel
theorem dX2_widened_7 : decode cX2_widened 7 = .ok (.invokestatic 107, 3) := by decide +kernel
theorem dX2_widened_10 : decode cX2_widened 10 = .ok (.aload_n 0, 1) := by decide +kernel
theorem dX2_widened_11 : decode cX2_widened 11 = .ok (.invokevirtual 52, 3) := by decide +kernel
theorem dX2_widened_14 : decode cX2_widened 14 = .ok (.aload_n 3, 1) := by decide +kernel
theorem dX2_widened_15 : decode cX2_widened 15 = .ok (.invokestatic 69, 3) := by decide +kernel
theorem dX2_widened_18 : decode cX2_widened 18 = .ok (.istore 4, 2) := by decide +kernel
theorem dX2_widened_20 : decode cX2_widened 20 = .ok (.iload 4, 2) := by decide +kernel
theorem dX2_widened_22 : decode cX2_widened 22 = .ok (.ifCond .ne 17, 3) := by decide +kernel
theorem dX2_widened_25 : decode cX2_widened 25 = .ok (.aload_n 3, 1) := by decide +kernel
theorem dX2_widened_26 : decode cX2_widened 26 = .ok (.getfield 66, 3) := by decide +kernel
theorem dX2_widened_29 : decode cX2_widened 29 = .ok (.iload_n 2, 1) := by decide +kernel
theorem dX2_widened_30 : decode cX2_widened 30 = .ok (.invokestatic 131, 3) := by decide +kernel
theorem dX2_widened_33 : decode cX2_widened 33 = .ok (.ifCond .ne 6, 3) := by decide +kernel
theorem dX2_widened_36 : decode cX2_widened 36 = .ok (.iconst 4, 1) := by decide +kernel
theorem dX2_widened_37 : decode cX2_widened 37 = .ok (.istore 4, 2) := by decide +kernel
theorem dX2_widened_39 : decode cX2_widened 39 = .ok (.aload_n 0, 1) := by decide +kernel
theorem dX2_widened_40 : decode cX2_widened 40 = .ok (.iload 4, 2) := by decide +kernel
theorem dX2_widened_42 : decode cX2_widened 42 = .ok (.invokevirtual 72, 3) := by decide +kernel
theorem dX2_widened_45 : decode cX2_widened 45 = .ok (.ifCond .eq 5, 3) := by decide +kernel
theorem dX2_widened_48 : decode cX2_widened 48 = .ok (.iconst (-1), 1) := by decide +kernel
theorem dX2_widened_49 : decode cX2_widened 49 = .ok (.ireturn, 1) := by decide +kernel
theorem dX2_widened_50 : decode cX2_widened 50 = .ok (.new 9, 3) := by decide +kernel
theorem dX2_widened_53 : decode cX2_widened 53 = .ok (.dup, 1) := by decide +kernel
theorem dX2_widened_54 : decode cX2_widened 54 = .ok (.iload_n 2, 1) := by decide +kernel
theorem dX2_widened_55 : decode cX2_widened 55 = .ok (.aload_n 3, 1) := by decide +kernel
theorem dX2_widened_56 : decode cX2_widened 56 = .ok (.getfield 76, 3) := by decide +kernel
theorem dX2_widened_59 : decode cX2_widened 59 = .ok (.invokespecial 55, 3) := by decide +kernel
theorem dX2_widened_62 : decode cX2_widened 62 = .ok (.astore 5, 2) := by decide +kernel
theorem dX2_widened_64 : decode cX2_widened 64 = .ok (.aload 5, 2) := by decide +kernel
theorem dX2_widened_66 : decode cX2_widened 66 = .ok (.aload_n 3, 1) := by decide +kernel
theorem dX2_widened_67 : decode cX2_widened 67 = .ok (.invokevirtual 135, 3) := by decide +kernel
theorem dX2_widened_70 : decode cX2_widened 70 = .ok (.aload_n 0, 1) := by decide +kernel
theorem dX2_widened_71 : decode cX2_widened 71 = .ok (.aload 5, 2) := by decide +kernel
theorem dX2_widened_73 : decode cX2_widened 73 = .ok (.invokevirtual 58, 3) := by decide +kernel
theorem dX2_widened_76 : decode cX2_widened 76 = .ok (.ireturn, 1) := by decide +kernel
theorem dX2_code_0 : decode cX2_code 0 = .ok (.aload_n 0, 1) := by decide +kernel
theorem dX2_code_1 : decode cX2_code 1 = .ok (.getfield 30, 3) := by decide +kernel
theorem dX2_code_4 : decode cX2_code 4 = .ok (.ireturn, 1) := by decide +kernel
theorem dX2_count_0 : decode cX2_count 0 = .ok (.iload_n 1, 1) := by decide +kernel
theorem dX2_count_1 : decode cX2_count 1 = .ok (.ifCond .lt 12, 3) := by decide +kernel
theorem dX2_count_4 : decode cX2_count 4 = .ok (.iload_n 1, 1) := by decide +kernel
theorem dX2_count_5 : decode cX2_count 5 = .ok (.aload_n 0, 1) := by decide +kernel
theorem dX2_count_6 : decode cX2_count 6 = .ok (.getfield 15, 3) := by decide +kernel
theorem dX2_count_9 : decode cX2_count 9 = .ok (.arraylength, 1) := by decide +kernel
theorem dX2_count_10 : decode cX2_count 10 = .ok (.if_icmp .lt 13, 3) := by decide +kernel
theorem dX2_count_13 : decode cX2_count 13 = .ok (.new 139, 3) := by decide +kernel
theorem dX2_count_16 : decode cX2_count 16 = .ok (.dup, 1) := by decide +kernel
theorem dX2_count_17 : decode cX2_count 17 = .ok (.ldc 141, 2) := by decide +kernel
theorem dX2_count_19 : decode cX2_count 19 = .ok (.invokespecial 143, 3) := by decide +kernel
theorem dX2_count_22 : decode cX2_count 22 = .ok (.athrow, 1) := by decide +kernel
theorem dX2_count_23 : decode cX2_count 23 = .ok (.aload_n 0, 1) := by decide +kernel
theorem dX2_count_24 : decode cX2_count 24 = .ok (.getfield 15, 3) := by decide +kernel
theorem dX2_count_27 : decode cX2_count 27 = .ok (.iload_n 1, 1) := by decide +kernel
theorem dX2_count_28 : decode cX2_count 28 = .ok (.iaload, 1) := by decide +kernel
theorem dX2_count_29 : decode cX2_count 29 = .ok (.ireturn, 1) := by decide +kernel
set_option maxRecDepth 20000 in
theorem ggX2_hasCells_X2_refuseNoKind : GoodIn wsX2_hasCells wsX2_refuseNoKind := goodIn_ca (goodIn_r _ [4, 5, 6, 7, 8, 3, 9] (by decide +kernel) (by decide +kernel)) (goodIn_sub (fun _ h => List.mem_cons_of_mem _ (List.mem_append_right _ h)) (by decide +kernel))
set_option maxRecDepth 20000 in
theorem gX2_hasCells_X2_refuseNoKind : GoodIn wsX2_hasCells (va_wsS RX2 144 yX2_refuseNoKind wsX2_refuseNoKind) := goodIn_app (goodIn_of _ (by decide +kernel)) ggX2_hasCells_X2_refuseNoKind
set_option maxRecDepth 20000 in
theorem ggX2_hasCells_X2_holdsCells : GoodIn wsX2_hasCells wsX2_holdsCells := goodIn_r _ [12] (by decide +kernel) (by decide +kernel)
set_option maxRecDepth 20000 in
theorem gX2_hasCells_X2_holdsCells : GoodIn wsX2_hasCells (va_wsS RX2 44 yX2_holdsCells wsX2_holdsCells) := goodIn_app (goodIn_of _ (by decide +kernel)) ggX2_hasCells_X2_holdsCells
theorem dX2_hasCells_0 : decode cX2_hasCells 0 = .ok (.iload_n 1, 1) := by decide +kernel
theorem dX2_hasCells_1 : decode cX2_hasCells 1 = .ok (.invokestatic 144, 3) := by decide +kernel
theorem dX2_hasCells_4 : decode cX2_hasCells 4 = .ok (.iload_n 1, 1) := by decide +kernel
theorem dX2_hasCells_5 : decode cX2_hasCells 5 = .ok (.invokestatic 44, 3) := by decide +kernel
theorem dX2_hasCells_8 : decode cX2_hasCells 8 = .ok (.ireturn, 1) := by decide +kernel
set_option maxRecDepth 20000 in
theorem ggX2_isNumber_X2_refuseNoKind : GoodIn wsX2_isNumber wsX2_refuseNoKind := goodIn_ca (goodIn_r _ [4, 5, 6, 7, 8, 3, 9] (by decide +kernel) (by decide +kernel)) (goodIn_sub (fun _ h => List.mem_cons_of_mem _ (List.mem_append_right _ h)) (by decide +kernel))
set_option maxRecDepth 20000 in
theorem gX2_isNumber_X2_refuseNoKind : GoodIn wsX2_isNumber (va_wsS RX2 144 yX2_refuseNoKind wsX2_refuseNoKind) := goodIn_app (goodIn_of _ (by decide +kernel)) ggX2_isNumber_X2_refuseNoKind
theorem dX2_isNumber_0 : decode cX2_isNumber 0 = .ok (.iload_n 1, 1) := by decide +kernel
theorem dX2_isNumber_1 : decode cX2_isNumber 1 = .ok (.invokestatic 144, 3) := by decide +kernel
theorem dX2_isNumber_4 : decode cX2_isNumber 4 = .ok (.iload_n 1, 1) := by decide +kernel
theorem dX2_isNumber_5 : decode cX2_isNumber 5 = .ok (.iconst 2, 1) := by decide +kernel
theorem dX2_isNumber_6 : decode cX2_isNumber 6 = .ok (.if_icmp .eq 14, 3) := by decide +kernel
theorem dX2_isNumber_9 : decode cX2_isNumber 9 = .ok (.iload_n 1, 1) := by decide +kernel
theorem dX2_isNumber_10 : decode cX2_isNumber 10 = .ok (.iconst 4, 1) := by decide +kernel
theorem dX2_isNumber_11 : decode cX2_isNumber 11 = .ok (.if_icmp .lt 13, 3) := by decide +kernel
theorem dX2_isNumber_14 : decode cX2_isNumber 14 = .ok (.iload_n 1, 1) := by decide +kernel
theorem dX2_isNumber_15 : decode cX2_isNumber 15 = .ok (.bipush 8, 2) := by decide +kernel
theorem dX2_isNumber_17 : decode cX2_isNumber 17 = .ok (.if_icmp .gt 7, 3) := by decide +kernel
theorem dX2_isNumber_20 : decode cX2_isNumber 20 = .ok (.iconst 1, 1) := by decide +kernel
theorem dX2_isNumber_21 : decode cX2_isNumber 21 = .ok (.goto 4, 3) := by decide +kernel
theorem dX2_isNumber_24 : decode cX2_isNumber 24 = .ok (.iconst 0, 1) := by decide +kernel
theorem dX2_isNumber_25 : decode cX2_isNumber 25 = .ok (.ireturn, 1) := by decide +kernel
set_option maxRecDepth 20000 in
theorem ggX2_canWiden_X2_refuseNoKind : GoodIn wsX2_canWiden wsX2_refuseNoKind := goodIn_ca (goodIn_r _ [4, 5, 6, 7, 8, 3, 9] (by decide +kernel) (by decide +kernel)) (goodIn_sub (fun _ h => List.mem_cons_of_mem _ (List.mem_append_right _ h)) (by decide +kernel))
set_option maxRecDepth 20000 in
theorem gX2_canWiden_X2_refuseNoKind : GoodIn wsX2_canWiden (va_wsS RX2 144 yX2_refuseNoKind wsX2_refuseNoKind) := goodIn_app (goodIn_of _ (by decide +kernel)) ggX2_canWiden_X2_refuseNoKind
set_option maxRecDepth 20000 in
theorem ggX2_canWiden_X2_widens : GoodIn wsX2_canWiden wsX2_widens := goodIn_r _ [12, 13, 14, 3, 15] (by decide +kernel) (by decide +kernel)
set_option maxRecDepth 20000 in
theorem gX2_canWiden_X2_widens : GoodIn wsX2_canWiden (va_wsS RX2 131 yX2_widens wsX2_widens) := goodIn_app (goodIn_of _ (by decide +kernel)) ggX2_canWiden_X2_widens
theorem dX2_canWiden_0 : decode cX2_canWiden 0 = .ok (.iload_n 1, 1) := by decide +kernel
theorem dX2_canWiden_1 : decode cX2_canWiden 1 = .ok (.invokestatic 144, 3) := by decide +kernel
theorem dX2_canWiden_4 : decode cX2_canWiden 4 = .ok (.iload_n 2, 1) := by decide +kernel
theorem dX2_canWiden_5 : decode cX2_canWiden 5 = .ok (.invokestatic 144, 3) := by decide +kernel
theorem dX2_canWiden_8 : decode cX2_canWiden 8 = .ok (.iload_n 1, 1) := by decide +kernel
theorem dX2_canWiden_9 : decode cX2_canWiden 9 = .ok (.iload_n 2, 1) := by decide +kernel
theorem dX2_canWiden_10 : decode cX2_canWiden 10 = .ok (.invokestatic 131, 3) := by decide +kernel
theorem dX2_canWiden_13 : decode cX2_canWiden 13 = .ok (.ireturn, 1) := by decide +kernel
set_option maxRecDepth 20000 in
theorem ggX2_digest_X2_mixed : GoodIn wsX2_digest wsX2_mixed := goodIn_r _ [7, 8] (by decide +kernel) (by decide +kernel)
set_option maxRecDepth 20000 in
theorem gX2_digest_X2_mixed : GoodIn wsX2_digest (va_wsS RX2 149 yX2_mixed wsX2_mixed) := goodIn_app (goodIn_of _ (by decide +kernel)) ggX2_digest_X2_mixed
set_option maxRecDepth 20000 in
theorem ggX2_digest_X2_columnAt : GoodIn wsX2_digest wsX2_columnAt := goodIn_ca (goodIn_r _ [12, 13, 14, 15, 51, 52, 53, 54, 55] (by decide +kernel) (by decide +kernel)) (goodIn_sub (fun _ h => List.mem_cons_of_mem _ (List.mem_append_right _ h)) (by decide +kernel))
set_option maxRecDepth 20000 in
theorem gX2_digest_X2_columnAt : GoodIn wsX2_digest (wsV RX2 62 RX2 yX2_columnAt wsX2_columnAt) := goodIn_app (goodIn_of _ (by decide +kernel)) ggX2_digest_X2_columnAt
set_option maxRecDepth 20000 in
theorem ggX2_digest_X2_mixedColumn : GoodIn wsX2_digest wsX2_mixedColumn := goodIn_r _ [19, 20, 21, 22, 23, 24, 4, 5, 6, 7, 8, 25, 26, 27, 28, 29, 30, 31, 32, 33, 34, 35, 36, 37, 38, 39, 40, 41, 42, 43, 44, 45, 46, 47, 48, 49, 50, 56, 57, 58, 59, 51, 52, 53, 54, 55, 60] (by decide +kernel) (by decide +kernel)
set_option maxRecDepth 20000 in
theorem gX2_digest_X2_mixedColumn : GoodIn wsX2_digest (wsV RX2 153 RX2 yX2_mixedColumn wsX2_mixedColumn) := goodIn_app (goodIn_of _ (by decide +kernel)) ggX2_digest_X2_mixedColumn
theorem dX2_digest_0 : decode cX2_digest 0 = .ok (.ldc2_w 147, 3) := by decide +kernel
theorem dX2_digest_3 : decode cX2_digest 3 = .ok (.aload_n 0, 1) := by decide +kernel
theorem dX2_digest_4 : decode cX2_digest 4 = .ok (.getfield 26, 3) := by decide +kernel
theorem dX2_digest_7 : decode cX2_digest 7 = .ok (.i2l, 1) := by decide +kernel
theorem dX2_digest_8 : decode cX2_digest 8 = .ok (.invokestatic 149, 3) := by decide +kernel
theorem dX2_digest_11 : decode cX2_digest 11 = .ok (.lstore_n 1, 1) := by decide +kernel
theorem dX2_digest_12 : decode cX2_digest 12 = .ok (.iconst 0, 1) := by decide +kernel
theorem dX2_digest_13 : decode cX2_digest 13 = .ok (.istore_n 3, 1) := by decide +kernel
theorem dX2_digest_14 : decode cX2_digest 14 = .ok (.iload_n 3, 1) := by decide +kernel
theorem dX2_digest_15 : decode cX2_digest 15 = .ok (.aload_n 0, 1) := by decide +kernel
theorem dX2_digest_16 : decode cX2_digest 16 = .ok (.getfield 26, 3) := by decide +kernel
theorem dX2_digest_19 : decode cX2_digest 19 = .ok (.if_icmp .ge 20, 3) := by decide +kernel
theorem dX2_digest_22 : decode cX2_digest 22 = .ok (.aload_n 0, 1) := by decide +kernel
theorem dX2_digest_23 : decode cX2_digest 23 = .ok (.lload_n 1, 1) := by decide +kernel
theorem dX2_digest_24 : decode cX2_digest 24 = .ok (.aload_n 0, 1) := by decide +kernel
theorem dX2_digest_25 : decode cX2_digest 25 = .ok (.iload_n 3, 1) := by decide +kernel
theorem dX2_digest_26 : decode cX2_digest 26 = .ok (.invokevirtual 62, 3) := by decide +kernel
theorem dX2_digest_29 : decode cX2_digest 29 = .ok (.invokevirtual 153, 3) := by decide +kernel
theorem dX2_digest_32 : decode cX2_digest 32 = .ok (.lstore_n 1, 1) := by decide +kernel
theorem dX2_digest_33 : decode cX2_digest 33 = .ok (.iinc 3 1, 3) := by decide +kernel
theorem dX2_digest_36 : decode cX2_digest 36 = .ok (.goto (-22), 3) := by decide +kernel
theorem dX2_digest_39 : decode cX2_digest 39 = .ok (.aload_n 0, 1) := by decide +kernel
theorem dX2_digest_40 : decode cX2_digest 40 = .ok (.getfield 15, 3) := by decide +kernel
theorem dX2_digest_43 : decode cX2_digest 43 = .ok (.astore_n 3, 1) := by decide +kernel
theorem dX2_digest_44 : decode cX2_digest 44 = .ok (.aload_n 3, 1) := by decide +kernel
theorem dX2_digest_45 : decode cX2_digest 45 = .ok (.arraylength, 1) := by decide +kernel
theorem dX2_digest_46 : decode cX2_digest 46 = .ok (.istore 4, 2) := by decide +kernel
theorem dX2_digest_48 : decode cX2_digest 48 = .ok (.iconst 0, 1) := by decide +kernel
theorem dX2_digest_49 : decode cX2_digest 49 = .ok (.istore 5, 2) := by decide +kernel
theorem dX2_digest_51 : decode cX2_digest 51 = .ok (.iload 5, 2) := by decide +kernel
theorem dX2_digest_53 : decode cX2_digest 53 = .ok (.iload 4, 2) := by decide +kernel
theorem dX2_digest_55 : decode cX2_digest 55 = .ok (.if_icmp .ge 23, 3) := by decide +kernel
theorem dX2_digest_58 : decode cX2_digest 58 = .ok (.aload_n 3, 1) := by decide +kernel
theorem dX2_digest_59 : decode cX2_digest 59 = .ok (.iload 5, 2) := by decide +kernel
theorem dX2_digest_61 : decode cX2_digest 61 = .ok (.iaload, 1) := by decide +kernel
theorem dX2_digest_62 : decode cX2_digest 62 = .ok (.istore 6, 2) := by decide +kernel
theorem dX2_digest_64 : decode cX2_digest 64 = .ok (.lload_n 1, 1) := by decide +kernel
theorem dX2_digest_65 : decode cX2_digest 65 = .ok (.iload 6, 2) := by decide +kernel
theorem dX2_digest_67 : decode cX2_digest 67 = .ok (.i2l, 1) := by decide +kernel
theorem dX2_digest_68 : decode cX2_digest 68 = .ok (.invokestatic 149, 3) := by decide +kernel
theorem dX2_digest_71 : decode cX2_digest 71 = .ok (.lstore_n 1, 1) := by decide +kernel
theorem dX2_digest_72 : decode cX2_digest 72 = .ok (.iinc 5 1, 3) := by decide +kernel
theorem dX2_digest_75 : decode cX2_digest 75 = .ok (.goto (-24), 3) := by decide +kernel
theorem dX2_digest_78 : decode cX2_digest 78 = .ok (.lload_n 1, 1) := by decide +kernel
theorem dX2_digest_79 : decode cX2_digest 79 = .ok (.lreturn, 1) := by decide +kernel
theorem dX2_isKind_0 : decode cX2_isKind 0 = .ok (.iload_n 0, 1) := by decide +kernel
theorem dX2_isKind_1 : decode cX2_isKind 1 = .ok (.ifCond .lt 13, 3) := by decide +kernel
theorem dX2_isKind_4 : decode cX2_isKind 4 = .ok (.iload_n 0, 1) := by decide +kernel
theorem dX2_isKind_5 : decode cX2_isKind 5 = .ok (.bipush 9, 2) := by decide +kernel
theorem dX2_isKind_7 : decode cX2_isKind 7 = .ok (.if_icmp .gt 7, 3) := by decide +kernel
theorem dX2_isKind_10 : decode cX2_isKind 10 = .ok (.iconst 1, 1) := by decide +kernel
theorem dX2_isKind_11 : decode cX2_isKind 11 = .ok (.goto 4, 3) := by decide +kernel
theorem dX2_isKind_14 : decode cX2_isKind 14 = .ok (.iconst 0, 1) := by decide +kernel
theorem dX2_isKind_15 : decode cX2_isKind 15 = .ok (.ireturn, 1) := by decide +kernel
theorem dX2_holdsCells_0 : decode cX2_holdsCells 0 = .ok (.iload_n 0, 1) := by decide +kernel
theorem dX2_holdsCells_1 : decode cX2_holdsCells 1 = .ok (.iconst 1, 1) := by decide +kernel
theorem dX2_holdsCells_2 : decode cX2_holdsCells 2 = .ok (.if_icmp .lt 13, 3) := by decide +kernel
theorem dX2_holdsCells_5 : decode cX2_holdsCells 5 = .ok (.iload_n 0, 1) := by decide +kernel
theorem dX2_holdsCells_6 : decode cX2_holdsCells 6 = .ok (.bipush 8, 2) := by decide +kernel
theorem dX2_holdsCells_8 : decode cX2_holdsCells 8 = .ok (.if_icmp .gt 7, 3) := by decide +kernel
theorem dX2_holdsCells_11 : decode cX2_holdsCells 11 = .ok (.iconst 1, 1) := by decide +kernel
theorem dX2_holdsCells_12 : decode cX2_holdsCells 12 = .ok (.goto 4, 3) := by decide +kernel
theorem dX2_holdsCells_15 : decode cX2_holdsCells 15 = .ok (.iconst 0, 1) := by decide +kernel
theorem dX2_holdsCells_16 : decode cX2_holdsCells 16 = .ok (.ireturn, 1) := by decide +kernel
theorem dX2_isLength_0 : decode cX2_isLength 0 = .ok (.iload_n 0, 1) := by decide +kernel
theorem dX2_isLength_1 : decode cX2_isLength 1 = .ok (.ifCond .lt 13, 3) := by decide +kernel
theorem dX2_isLength_4 : decode cX2_isLength 4 = .ok (.iload_n 0, 1) := by decide +kernel
theorem dX2_isLength_5 : decode cX2_isLength 5 = .ok (.bipush 40, 2) := by decide +kernel
theorem dX2_isLength_7 : decode cX2_isLength 7 = .ok (.if_icmp .gt 7, 3) := by decide +kernel
theorem dX2_isLength_10 : decode cX2_isLength 10 = .ok (.iconst 1, 1) := by decide +kernel
theorem dX2_isLength_11 : decode cX2_isLength 11 = .ok (.goto 4, 3) := by decide +kernel
theorem dX2_isLength_14 : decode cX2_isLength 14 = .ok (.iconst 0, 1) := by decide +kernel
theorem dX2_isLength_15 : decode cX2_isLength 15 = .ok (.ireturn, 1) := by decide +kernel
theorem dX2_isFloating_0 : decode cX2_isFloating 0 = .ok (.iload_n 0, 1) := by decide +kernel
theorem dX2_isFloating_1 : decode cX2_isFloating 1 = .ok (.bipush 7, 2) := by decide +kernel
theorem dX2_isFloating_3 : decode cX2_isFloating 3 = .ok (.if_icmp .eq 9, 3) := by decide +kernel
theorem dX2_isFloating_6 : decode cX2_isFloating 6 = .ok (.iload_n 0, 1) := by decide +kernel
theorem dX2_isFloating_7 : decode cX2_isFloating 7 = .ok (.bipush 8, 2) := by decide +kernel
theorem dX2_isFloating_9 : decode cX2_isFloating 9 = .ok (.if_icmp .ne 7, 3) := by decide +kernel
theorem dX2_isFloating_12 : decode cX2_isFloating 12 = .ok (.iconst 1, 1) := by decide +kernel
theorem dX2_isFloating_13 : decode cX2_isFloating 13 = .ok (.goto 4, 3) := by decide +kernel
theorem dX2_isFloating_16 : decode cX2_isFloating 16 = .ok (.iconst 0, 1) := by decide +kernel
theorem dX2_isFloating_17 : decode cX2_isFloating 17 = .ok (.ireturn, 1) := by decide +kernel
set_option maxRecDepth 20000 in
theorem ggX2_widens_X2_holdsCells : GoodIn wsX2_widens wsX2_holdsCells := goodIn_r _ [4] (by decide +kernel) (by decide +kernel)
set_option maxRecDepth 20000 in
theorem gX2_widens_X2_holdsCells : GoodIn wsX2_widens (va_wsS RX2 44 yX2_holdsCells wsX2_holdsCells) := goodIn_app (goodIn_of _ (by decide +kernel)) ggX2_widens_X2_holdsCells
theorem dX2_widens_0 : decode cX2_widens 0 = .ok (.iload_n 0, 1) := by decide +kernel
theorem dX2_widens_1 : decode cX2_widens 1 = .ok (.invokestatic 44, 3) := by decide +kernel
theorem dX2_widens_4 : decode cX2_widens 4 = .ok (.ifCond .eq 10, 3) := by decide +kernel
theorem dX2_widens_7 : decode cX2_widens 7 = .ok (.iload_n 1, 1) := by decide +kernel
theorem dX2_widens_8 : decode cX2_widens 8 = .ok (.invokestatic 44, 3) := by decide +kernel
theorem dX2_widens_11 : decode cX2_widens 11 = .ok (.ifCond .ne 5, 3) := by decide +kernel
theorem dX2_widens_14 : decode cX2_widens 14 = .ok (.iconst 0, 1) := by decide +kernel
theorem dX2_widens_15 : decode cX2_widens 15 = .ok (.ireturn, 1) := by decide +kernel
theorem dX2_widens_16 : decode cX2_widens 16 = .ok (.iload_n 0, 1) := by decide +kernel
theorem dX2_widens_17 : decode cX2_widens 17 = .ok (.iload_n 1, 1) := by decide +kernel
theorem dX2_widens_18 : decode cX2_widens 18 = .ok (.if_icmp .ne 5, 3) := by decide +kernel
theorem dX2_widens_21 : decode cX2_widens 21 = .ok (.iconst 1, 1) := by decide +kernel
theorem dX2_widens_22 : decode cX2_widens 22 = .ok (.ireturn, 1) := by decide +kernel
theorem dX2_widens_23 : decode cX2_widens 23 = .ok (.iload_n 0, 1) := by decide +kernel
theorem dX2_widens_24 : decode cX2_widens 24 = .ok (.iconst 1, 1) := by decide +kernel
theorem dX2_widens_25 : decode cX2_widens 25 = .ok (.if_icmp .eq 8, 3) := by decide +kernel
theorem dX2_widens_28 : decode cX2_widens 28 = .ok (.iload_n 1, 1) := by decide +kernel
theorem dX2_widens_29 : decode cX2_widens 29 = .ok (.iconst 3, 1) := by decide +kernel
theorem dX2_widens_30 : decode cX2_widens 30 = .ok (.if_icmp .ne 5, 3) := by decide +kernel
theorem dX2_widens_33 : decode cX2_widens 33 = .ok (.iconst 0, 1) := by decide +kernel
theorem dX2_widens_34 : decode cX2_widens 34 = .ok (.ireturn, 1) := by decide +kernel
theorem dX2_widens_35 : decode cX2_widens 35 = .ok (.iload_n 0, 1) := by decide +kernel
theorem dX2_widens_36 : decode cX2_widens 36 = .ok (.iconst 3, 1) := by decide +kernel
theorem dX2_widens_37 : decode cX2_widens 37 = .ok (.if_icmp .ne 16, 3) := by decide +kernel
theorem dX2_widens_40 : decode cX2_widens 40 = .ok (.iload_n 1, 1) := by decide +kernel
theorem dX2_widens_41 : decode cX2_widens 41 = .ok (.iconst 5, 1) := by decide +kernel
theorem dX2_widens_42 : decode cX2_widens 42 = .ok (.if_icmp .lt 7, 3) := by decide +kernel
theorem dX2_widens_45 : decode cX2_widens 45 = .ok (.iconst 1, 1) := by decide +kernel
theorem dX2_widens_46 : decode cX2_widens 46 = .ok (.goto 17, 3) := by decide +kernel
theorem dX2_widens_49 : decode cX2_widens 49 = .ok (.iconst 0, 1) := by decide +kernel
theorem dX2_widens_50 : decode cX2_widens 50 = .ok (.goto 13, 3) := by decide +kernel
theorem dX2_widens_53 : decode cX2_widens 53 = .ok (.iload_n 0, 1) := by decide +kernel
theorem dX2_widens_54 : decode cX2_widens 54 = .ok (.iload_n 1, 1) := by decide +kernel
theorem dX2_widens_55 : decode cX2_widens 55 = .ok (.if_icmp .ge 7, 3) := by decide +kernel
theorem dX2_widens_58 : decode cX2_widens 58 = .ok (.iconst 1, 1) := by decide +kernel
theorem dX2_widens_59 : decode cX2_widens 59 = .ok (.goto 4, 3) := by decide +kernel
theorem dX2_widens_62 : decode cX2_widens 62 = .ok (.iconst 0, 1) := by decide +kernel
theorem dX2_widens_63 : decode cX2_widens 63 = .ok (.ireturn, 1) := by decide +kernel
theorem dX2_isPart_0 : decode cX2_isPart 0 = .ok (.iload_n 0, 1) := by decide +kernel
theorem dX2_isPart_1 : decode cX2_isPart 1 = .ok (.ifCond .lt 18, 3) := by decide +kernel
theorem dX2_isPart_4 : decode cX2_isPart 4 = .ok (.iload_n 1, 1) := by decide +kernel
theorem dX2_isPart_5 : decode cX2_isPart 5 = .ok (.ifCond .lt 14, 3) := by decide +kernel
theorem dX2_isPart_8 : decode cX2_isPart 8 = .ok (.iload_n 0, 1) := by decide +kernel
theorem dX2_isPart_9 : decode cX2_isPart 9 = .ok (.iload_n 2, 1) := by decide +kernel
theorem dX2_isPart_10 : decode cX2_isPart 10 = .ok (.iload_n 1, 1) := by decide +kernel
theorem dX2_isPart_11 : decode cX2_isPart 11 = .ok (.isub, 1) := by decide +kernel
theorem dX2_isPart_12 : decode cX2_isPart 12 = .ok (.if_icmp .gt 7, 3) := by decide +kernel
theorem dX2_isPart_15 : decode cX2_isPart 15 = .ok (.iconst 1, 1) := by decide +kernel
theorem dX2_isPart_16 : decode cX2_isPart 16 = .ok (.goto 4, 3) := by decide +kernel
theorem dX2_isPart_19 : decode cX2_isPart 19 = .ok (.iconst 0, 1) := by decide +kernel
theorem dX2_isPart_20 : decode cX2_isPart 20 = .ok (.ireturn, 1) := by decide +kernel
set_option maxRecDepth 20000 in
theorem ggX2_refuseNoKind_X2_isKind : GoodIn wsX2_refuseNoKind wsX2_isKind := goodIn_r _ [6] (by decide +kernel) (by decide +kernel)
set_option maxRecDepth 20000 in
theorem gX2_refuseNoKind_X2_isKind : GoodIn wsX2_refuseNoKind (va_wsS RX2 33 yX2_isKind wsX2_isKind) := goodIn_app (goodIn_of _ (by decide +kernel)) ggX2_refuseNoKind_X2_isKind
theorem dX2_refuseNoKind_0 : decode cX2_refuseNoKind 0 = .ok (.iload_n 0, 1) := by decide +kernel
theorem dX2_refuseNoKind_1 : decode cX2_refuseNoKind 1 = .ok (.invokestatic 33, 3) := by decide +kernel
theorem dX2_refuseNoKind_4 : decode cX2_refuseNoKind 4 = .ok (.ifCond .ne 13, 3) := by decide +kernel
theorem dX2_refuseNoKind_7 : decode cX2_refuseNoKind 7 = .ok (.new 139, 3) := by decide +kernel
theorem dX2_refuseNoKind_10 : decode cX2_refuseNoKind 10 = .ok (.dup, 1) := by decide +kernel
theorem dX2_refuseNoKind_11 : decode cX2_refuseNoKind 11 = .ok (.ldc 39, 2) := by decide +kernel
theorem dX2_refuseNoKind_13 : decode cX2_refuseNoKind 13 = .ok (.invokespecial 143, 3) := by decide +kernel
theorem dX2_refuseNoKind_16 : decode cX2_refuseNoKind 16 = .ok (.athrow, 1) := by decide +kernel
theorem dX2_refuseNoKind_17 : decode cX2_refuseNoKind 17 = .ok (.return_, 1) := by decide +kernel
set_option maxRecDepth 20000 in
theorem ggX2_refuseWithoutCells_X2_holdsCells : GoodIn wsX2_refuseWithoutCells wsX2_holdsCells := goodIn_r _ [6] (by decide +kernel) (by decide +kernel)
set_option maxRecDepth 20000 in
theorem gX2_refuseWithoutCells_X2_holdsCells : GoodIn wsX2_refuseWithoutCells (va_wsS RX2 44 yX2_holdsCells wsX2_holdsCells) := goodIn_app (goodIn_of _ (by decide +kernel)) ggX2_refuseWithoutCells_X2_holdsCells
theorem dX2_refuseWithoutCells_0 : decode cX2_refuseWithoutCells 0 = .ok (.iload_n 0, 1) := by decide +kernel
theorem dX2_refuseWithoutCells_1 : decode cX2_refuseWithoutCells 1 = .ok (.invokestatic 44, 3) := by decide +kernel
theorem dX2_refuseWithoutCells_4 : decode cX2_refuseWithoutCells 4 = .ok (.ifCond .ne 13, 3) := by decide +kernel
theorem dX2_refuseWithoutCells_7 : decode cX2_refuseWithoutCells 7 = .ok (.new 37, 3) := by decide +kernel
theorem dX2_refuseWithoutCells_10 : decode cX2_refuseWithoutCells 10 = .ok (.dup, 1) := by decide +kernel
theorem dX2_refuseWithoutCells_11 : decode cX2_refuseWithoutCells 11 = .ok (.ldc 157, 2) := by decide +kernel
theorem dX2_refuseWithoutCells_13 : decode cX2_refuseWithoutCells 13 = .ok (.invokespecial 41, 3) := by decide +kernel
theorem dX2_refuseWithoutCells_16 : decode cX2_refuseWithoutCells 16 = .ok (.athrow, 1) := by decide +kernel
theorem dX2_refuseWithoutCells_17 : decode cX2_refuseWithoutCells 17 = .ok (.return_, 1) := by decide +kernel
theorem dX2_refuseWhenFull_0 : decode cX2_refuseWhenFull 0 = .ok (.aload_n 0, 1) := by decide +kernel
theorem dX2_refuseWhenFull_1 : decode cX2_refuseWhenFull 1 = .ok (.getfield 26, 3) := by decide +kernel
theorem dX2_refuseWhenFull_4 : decode cX2_refuseWhenFull 4 = .ok (.aload_n 0, 1) := by decide +kernel
theorem dX2_refuseWhenFull_5 : decode cX2_refuseWhenFull 5 = .ok (.getfield 11, 3) := by decide +kernel
theorem dX2_refuseWhenFull_8 : decode cX2_refuseWhenFull 8 = .ok (.arraylength, 1) := by decide +kernel
theorem dX2_refuseWhenFull_9 : decode cX2_refuseWhenFull 9 = .ok (.if_icmp .lt 13, 3) := by decide +kernel
theorem dX2_refuseWhenFull_12 : decode cX2_refuseWhenFull 12 = .ok (.new 159, 3) := by decide +kernel
theorem dX2_refuseWhenFull_15 : decode cX2_refuseWhenFull 15 = .ok (.dup, 1) := by decide +kernel
theorem dX2_refuseWhenFull_16 : decode cX2_refuseWhenFull 16 = .ok (.ldc 161, 2) := by decide +kernel
theorem dX2_refuseWhenFull_18 : decode cX2_refuseWhenFull 18 = .ok (.invokespecial 163, 3) := by decide +kernel
theorem dX2_refuseWhenFull_21 : decode cX2_refuseWhenFull 21 = .ok (.athrow, 1) := by decide +kernel
theorem dX2_refuseWhenFull_22 : decode cX2_refuseWhenFull 22 = .ok (.return_, 1) := by decide +kernel
theorem dX2_columnAt_0 : decode cX2_columnAt 0 = .ok (.iload_n 1, 1) := by decide +kernel
theorem dX2_columnAt_1 : decode cX2_columnAt 1 = .ok (.ifCond .lt 21, 3) := by decide +kernel
theorem dX2_columnAt_4 : decode cX2_columnAt 4 = .ok (.iload_n 1, 1) := by decide +kernel
theorem dX2_columnAt_5 : decode cX2_columnAt 5 = .ok (.aload_n 0, 1) := by decide +kernel
theorem dX2_columnAt_6 : decode cX2_columnAt 6 = .ok (.getfield 11, 3) := by decide +kernel
theorem dX2_columnAt_9 : decode cX2_columnAt 9 = .ok (.arraylength, 1) := by decide +kernel
theorem dX2_columnAt_10 : decode cX2_columnAt 10 = .ok (.if_icmp .ge 12, 3) := by decide +kernel
theorem dX2_columnAt_13 : decode cX2_columnAt 13 = .ok (.aload_n 0, 1) := by decide +kernel
theorem dX2_columnAt_14 : decode cX2_columnAt 14 = .ok (.getfield 11, 3) := by decide +kernel
theorem dX2_columnAt_17 : decode cX2_columnAt 17 = .ok (.iload_n 1, 1) := by decide +kernel
theorem dX2_columnAt_18 : decode cX2_columnAt 18 = .ok (.aaload, 1) := by decide +kernel
theorem dX2_columnAt_19 : decode cX2_columnAt 19 = .ok (.goto 4, 3) := by decide +kernel
theorem dX2_columnAt_22 : decode cX2_columnAt 22 = .ok (.aconst_null, 1) := by decide +kernel
theorem dX2_columnAt_23 : decode cX2_columnAt 23 = .ok (.astore_n 2, 1) := by decide +kernel
theorem dX2_columnAt_24 : decode cX2_columnAt 24 = .ok (.aload_n 2, 1) := by decide +kernel
theorem dX2_columnAt_25 : decode cX2_columnAt 25 = .ok (.ifnonnull 13, 3) := by decide +kernel
theorem dX2_columnAt_28 : decode cX2_columnAt 28 = .ok (.new 139, 3) := by decide +kernel
theorem dX2_columnAt_31 : decode cX2_columnAt 31 = .ok (.dup, 1) := by decide +kernel
theorem dX2_columnAt_32 : decode cX2_columnAt 32 = .ok (.ldc 164, 2) := by decide +kernel
theorem dX2_columnAt_34 : decode cX2_columnAt 34 = .ok (.invokespecial 143, 3) := by decide +kernel
theorem dX2_columnAt_37 : decode cX2_columnAt 37 = .ok (.athrow, 1) := by decide +kernel
theorem dX2_columnAt_38 : decode cX2_columnAt 38 = .ok (.aload_n 2, 1) := by decide +kernel
theorem dX2_columnAt_39 : decode cX2_columnAt 39 = .ok (.areturn, 1) := by decide +kernel
theorem dX2_addColumn_0 : decode cX2_addColumn 0 = .ok (.aload_n 0, 1) := by decide +kernel
theorem dX2_addColumn_1 : decode cX2_addColumn 1 = .ok (.getfield 26, 3) := by decide +kernel
theorem dX2_addColumn_4 : decode cX2_addColumn 4 = .ok (.istore_n 2, 1) := by decide +kernel
theorem dX2_addColumn_5 : decode cX2_addColumn 5 = .ok (.iload_n 2, 1) := by decide +kernel
theorem dX2_addColumn_6 : decode cX2_addColumn 6 = .ok (.ifCond .lt 26, 3) := by decide +kernel
theorem dX2_addColumn_9 : decode cX2_addColumn 9 = .ok (.iload_n 2, 1) := by decide +kernel
theorem dX2_addColumn_10 : decode cX2_addColumn 10 = .ok (.aload_n 0, 1) := by decide +kernel
theorem dX2_addColumn_11 : decode cX2_addColumn 11 = .ok (.getfield 11, 3) := by decide +kernel
theorem dX2_addColumn_14 : decode cX2_addColumn 14 = .ok (.arraylength, 1) := by decide +kernel
theorem dX2_addColumn_15 : decode cX2_addColumn 15 = .ok (.if_icmp .ge 17, 3) := by decide +kernel
theorem dX2_addColumn_18 : decode cX2_addColumn 18 = .ok (.aload_n 0, 1) := by decide +kernel
theorem dX2_addColumn_19 : decode cX2_addColumn 19 = .ok (.getfield 11, 3) := by decide +kernel
theorem dX2_addColumn_22 : decode cX2_addColumn 22 = .ok (.iload_n 2, 1) := by decide +kernel
theorem dX2_addColumn_23 : decode cX2_addColumn 23 = .ok (.aload_n 1, 1) := by decide +kernel
theorem dX2_addColumn_24 : decode cX2_addColumn 24 = .ok (.aastore, 1) := by decide +kernel
theorem dX2_addColumn_25 : decode cX2_addColumn 25 = .ok (.aload_n 0, 1) := by decide +kernel
theorem dX2_addColumn_26 : decode cX2_addColumn 26 = .ok (.iload_n 2, 1) := by decide +kernel
theorem dX2_addColumn_27 : decode cX2_addColumn 27 = .ok (.iconst 1, 1) := by decide +kernel
theorem dX2_addColumn_28 : decode cX2_addColumn 28 = .ok (.iadd, 1) := by decide +kernel
theorem dX2_addColumn_29 : decode cX2_addColumn 29 = .ok (.putfield 26, 3) := by decide +kernel
theorem dX2_addColumn_32 : decode cX2_addColumn 32 = .ok (.iload_n 2, 1) := by decide +kernel
theorem dX2_addColumn_33 : decode cX2_addColumn 33 = .ok (.ireturn, 1) := by decide +kernel
theorem dX2_note_0 : decode cX2_note 0 = .ok (.iload_n 1, 1) := by decide +kernel
theorem dX2_note_1 : decode cX2_note 1 = .ok (.ifCond .lt 22, 3) := by decide +kernel
theorem dX2_note_4 : decode cX2_note 4 = .ok (.iload_n 1, 1) := by decide +kernel
theorem dX2_note_5 : decode cX2_note 5 = .ok (.aload_n 0, 1) := by decide +kernel
theorem dX2_note_6 : decode cX2_note 6 = .ok (.getfield 15, 3) := by decide +kernel
theorem dX2_note_9 : decode cX2_note 9 = .ok (.arraylength, 1) := by decide +kernel
theorem dX2_note_10 : decode cX2_note 10 = .ok (.if_icmp .ge 13, 3) := by decide +kernel
theorem dX2_note_13 : decode cX2_note 13 = .ok (.aload_n 0, 1) := by decide +kernel
theorem dX2_note_14 : decode cX2_note 14 = .ok (.getfield 15, 3) := by decide +kernel
theorem dX2_note_17 : decode cX2_note 17 = .ok (.iload_n 1, 1) := by decide +kernel
theorem dX2_note_18 : decode cX2_note 18 = .ok (.dup2, 1) := by decide +kernel
theorem dX2_note_19 : decode cX2_note 19 = .ok (.iaload, 1) := by decide +kernel
theorem dX2_note_20 : decode cX2_note 20 = .ok (.iconst 1, 1) := by decide +kernel
theorem dX2_note_21 : decode cX2_note 21 = .ok (.iadd, 1) := by decide +kernel
theorem dX2_note_22 : decode cX2_note 22 = .ok (.iastore, 1) := by decide +kernel
theorem dX2_note_23 : decode cX2_note 23 = .ok (.aload_n 0, 1) := by decide +kernel
theorem dX2_note_24 : decode cX2_note 24 = .ok (.iload_n 1, 1) := by decide +kernel
theorem dX2_note_25 : decode cX2_note 25 = .ok (.putfield 30, 3) := by decide +kernel
theorem dX2_note_28 : decode cX2_note 28 = .ok (.iload_n 1, 1) := by decide +kernel
theorem dX2_note_29 : decode cX2_note 29 = .ok (.ireturn, 1) := by decide +kernel
theorem dX2_codeOfColumn_0 : decode cX2_codeOfColumn 0 = .ok (.aload_n 0, 1) := by decide +kernel
theorem dX2_codeOfColumn_1 : decode cX2_codeOfColumn 1 = .ok (.getfield 66, 3) := by decide +kernel
theorem dX2_codeOfColumn_4 : decode cX2_codeOfColumn 4 = .ok (.ifCond .ne 5, 3) := by decide +kernel
theorem dX2_codeOfColumn_7 : decode cX2_codeOfColumn 7 = .ok (.iconst 1, 1) := by decide +kernel
theorem dX2_codeOfColumn_8 : decode cX2_codeOfColumn 8 = .ok (.ireturn, 1) := by decide +kernel
theorem dX2_codeOfColumn_9 : decode cX2_codeOfColumn 9 = .ok (.aload_n 0, 1) := by decide +kernel
theorem dX2_codeOfColumn_10 : decode cX2_codeOfColumn 10 = .ok (.getfield 66, 3) := by decide +kernel
theorem dX2_codeOfColumn_13 : decode cX2_codeOfColumn 13 = .ok (.bipush 9, 2) := by decide +kernel
theorem dX2_codeOfColumn_15 : decode cX2_codeOfColumn 15 = .ok (.if_icmp .ne 7, 3) := by decide +kernel
theorem dX2_codeOfColumn_18 : decode cX2_codeOfColumn 18 = .ok (.iconst 2, 1) := by decide +kernel
theorem dX2_codeOfColumn_19 : decode cX2_codeOfColumn 19 = .ok (.goto 4, 3) := by decide +kernel
theorem dX2_codeOfColumn_22 : decode cX2_codeOfColumn 22 = .ok (.iconst 0, 1) := by decide +kernel
theorem dX2_codeOfColumn_23 : decode cX2_codeOfColumn 23 = .ok (.ireturn, 1) := by decide +kernel
set_option maxRecDepth 20000 in
theorem ggX2_codeOfCell_X2_codeOfColumn : GoodIn wsX2_codeOfCell wsX2_codeOfColumn := goodIn_r _ [5, 6, 13, 14, 15, 16] (by decide +kernel) (by decide +kernel)
set_option maxRecDepth 20000 in
theorem gX2_codeOfCell_X2_codeOfColumn : GoodIn wsX2_codeOfCell (va_wsS RX2 69 yX2_codeOfColumn wsX2_codeOfColumn) := goodIn_app (goodIn_of _ (by decide +kernel)) ggX2_codeOfCell_X2_codeOfColumn
set_option maxRecDepth 20000 in
theorem ggX2_codeOfCell_X2_widens : GoodIn wsX2_codeOfCell wsX2_widens := goodIn_r _ [9, 10, 11, 4, 12] (by decide +kernel) (by decide +kernel)
set_option maxRecDepth 20000 in
theorem gX2_codeOfCell_X2_widens : GoodIn wsX2_codeOfCell (va_wsS RX2 131 yX2_widens wsX2_widens) := goodIn_app (goodIn_of _ (by decide +kernel)) ggX2_codeOfCell_X2_widens
theorem dX2_codeOfCell_0 : decode cX2_codeOfCell 0 = .ok (.aload_n 0, 1) := by decide +kernel
theorem dX2_codeOfCell_1 : decode cX2_codeOfCell 1 = .ok (.invokestatic 69, 3) := by decide +kernel
theorem dX2_codeOfCell_4 : decode cX2_codeOfCell 4 = .ok (.istore 4, 2) := by decide +kernel
theorem dX2_codeOfCell_6 : decode cX2_codeOfCell 6 = .ok (.iload 4, 2) := by decide +kernel
theorem dX2_codeOfCell_8 : decode cX2_codeOfCell 8 = .ok (.ifCond .eq 6, 3) := by decide +kernel
theorem dX2_codeOfCell_11 : decode cX2_codeOfCell 11 = .ok (.iload 4, 2) := by decide +kernel
theorem dX2_codeOfCell_13 : decode cX2_codeOfCell 13 = .ok (.ireturn, 1) := by decide +kernel
theorem dX2_codeOfCell_14 : decode cX2_codeOfCell 14 = .ok (.iload_n 1, 1) := by decide +kernel
theorem dX2_codeOfCell_15 : decode cX2_codeOfCell 15 = .ok (.ifCond .lt 11, 3) := by decide +kernel
theorem dX2_codeOfCell_18 : decode cX2_codeOfCell 18 = .ok (.iload_n 1, 1) := by decide +kernel
theorem dX2_codeOfCell_19 : decode cX2_codeOfCell 19 = .ok (.aload_n 0, 1) := by decide +kernel
theorem dX2_codeOfCell_20 : decode cX2_codeOfCell 20 = .ok (.getfield 76, 3) := by decide +kernel
theorem dX2_codeOfCell_23 : decode cX2_codeOfCell 23 = .ok (.if_icmp .lt 5, 3) := by decide +kernel
theorem dX2_codeOfCell_26 : decode cX2_codeOfCell 26 = .ok (.iconst 3, 1) := by decide +kernel
theorem dX2_codeOfCell_27 : decode cX2_codeOfCell 27 = .ok (.ireturn, 1) := by decide +kernel
theorem dX2_codeOfCell_28 : decode cX2_codeOfCell 28 = .ok (.iload_n 2, 1) := by decide +kernel
theorem dX2_codeOfCell_29 : decode cX2_codeOfCell 29 = .ok (.iload_n 3, 1) := by decide +kernel
theorem dX2_codeOfCell_30 : decode cX2_codeOfCell 30 = .ok (.invokestatic 131, 3) := by decide +kernel
theorem dX2_codeOfCell_33 : decode cX2_codeOfCell 33 = .ok (.ifCond .eq 7, 3) := by decide +kernel
theorem dX2_codeOfCell_36 : decode cX2_codeOfCell 36 = .ok (.iconst 0, 1) := by decide +kernel
theorem dX2_codeOfCell_37 : decode cX2_codeOfCell 37 = .ok (.goto 4, 3) := by decide +kernel
theorem dX2_codeOfCell_40 : decode cX2_codeOfCell 40 = .ok (.iconst 4, 1) := by decide +kernel
theorem dX2_codeOfCell_41 : decode cX2_codeOfCell 41 = .ok (.ireturn, 1) := by decide +kernel
theorem dX2_codeOfKinds_0 : decode cX2_codeOfKinds 0 = .ok (.aload_n 0, 1) := by decide +kernel
theorem dX2_codeOfKinds_1 : decode cX2_codeOfKinds 1 = .ok (.getfield 66, 3) := by decide +kernel
theorem dX2_codeOfKinds_4 : decode cX2_codeOfKinds 4 = .ok (.ifCond .eq 10, 3) := by decide +kernel
theorem dX2_codeOfKinds_7 : decode cX2_codeOfKinds 7 = .ok (.aload_n 1, 1) := by decide +kernel
theorem dX2_codeOfKinds_8 : decode cX2_codeOfKinds 8 = .ok (.getfield 66, 3) := by decide +kernel
theorem dX2_codeOfKinds_11 : decode cX2_codeOfKinds 11 = .ok (.ifCond .ne 5, 3) := by decide +kernel
theorem dX2_codeOfKinds_14 : decode cX2_codeOfKinds 14 = .ok (.iconst 1, 1) := by decide +kernel
theorem dX2_codeOfKinds_15 : decode cX2_codeOfKinds 15 = .ok (.ireturn, 1) := by decide +kernel
theorem dX2_codeOfKinds_16 : decode cX2_codeOfKinds 16 = .ok (.aload_n 0, 1) := by decide +kernel
theorem dX2_codeOfKinds_17 : decode cX2_codeOfKinds 17 = .ok (.getfield 66, 3) := by decide +kernel
theorem dX2_codeOfKinds_20 : decode cX2_codeOfKinds 20 = .ok (.aload_n 1, 1) := by decide +kernel
theorem dX2_codeOfKinds_21 : decode cX2_codeOfKinds 21 = .ok (.getfield 66, 3) := by decide +kernel
theorem dX2_codeOfKinds_24 : decode cX2_codeOfKinds 24 = .ok (.if_icmp .ne 16, 3) := by decide +kernel
theorem dX2_codeOfKinds_27 : decode cX2_codeOfKinds 27 = .ok (.aload_n 0, 1) := by decide +kernel
theorem dX2_codeOfKinds_28 : decode cX2_codeOfKinds 28 = .ok (.getfield 66, 3) := by decide +kernel
theorem dX2_codeOfKinds_31 : decode cX2_codeOfKinds 31 = .ok (.bipush 9, 2) := by decide +kernel
theorem dX2_codeOfKinds_33 : decode cX2_codeOfKinds 33 = .ok (.if_icmp .eq 7, 3) := by decide +kernel
theorem dX2_codeOfKinds_36 : decode cX2_codeOfKinds 36 = .ok (.iconst 1, 1) := by decide +kernel
theorem dX2_codeOfKinds_37 : decode cX2_codeOfKinds 37 = .ok (.goto 4, 3) := by decide +kernel
theorem dX2_codeOfKinds_40 : decode cX2_codeOfKinds 40 = .ok (.iconst 0, 1) := by decide +kernel
theorem dX2_codeOfKinds_41 : decode cX2_codeOfKinds 41 = .ok (.istore_n 2, 1) := by decide +kernel
theorem dX2_codeOfKinds_42 : decode cX2_codeOfKinds 42 = .ok (.iload_n 2, 1) := by decide +kernel
theorem dX2_codeOfKinds_43 : decode cX2_codeOfKinds 43 = .ok (.ifCond .eq 7, 3) := by decide +kernel
theorem dX2_codeOfKinds_46 : decode cX2_codeOfKinds 46 = .ok (.iconst 0, 1) := by decide +kernel
theorem dX2_codeOfKinds_47 : decode cX2_codeOfKinds 47 = .ok (.goto 4, 3) := by decide +kernel
theorem dX2_codeOfKinds_50 : decode cX2_codeOfKinds 50 = .ok (.iconst 5, 1) := by decide +kernel
theorem dX2_codeOfKinds_51 : decode cX2_codeOfKinds 51 = .ok (.ireturn, 1) := by decide +kernel
set_option maxRecDepth 20000 in
theorem ggX2_readWhole_X2_codeOfCell : GoodIn wsX2_readWhole wsX2_codeOfCell := goodIn_r _ [5, 6, 7, 8, 4, 9, 1, 10, 11, 12, 13, 14, 15, 28, 29, 30, 31] (by decide +kernel) (by decide +kernel)
set_option maxRecDepth 20000 in
theorem gX2_readWhole_X2_codeOfCell : GoodIn wsX2_readWhole (va_wsS RX2 83 yX2_codeOfCell wsX2_codeOfCell) := goodIn_app (goodIn_of _ (by decide +kernel)) ggX2_readWhole_X2_codeOfCell
set_option maxRecDepth 20000 in
theorem ggX2_readWhole_X2_note : GoodIn wsX2_readWhole wsX2_note := goodIn_r _ [19, 20, 21, 32, 33, 34, 35, 36] (by decide +kernel) (by decide +kernel)
set_option maxRecDepth 20000 in
theorem gX2_readWhole_X2_note : GoodIn wsX2_readWhole (wsV RX2 72 RX2 yX2_note wsX2_note) := goodIn_app (goodIn_of _ (by decide +kernel)) ggX2_readWhole_X2_note
set_option maxRecDepth 20000 in
theorem ggX2_readWhole_X0_wholeAt : GoodIn wsX2_readWhole wsX0_wholeAt := goodIn_r _ [26, 27, 28, 29, 30, 31] (by decide +kernel) (by decide +kernel)
set_option maxRecDepth 20000 in
theorem gX2_readWhole_X0_wholeAt : GoodIn wsX2_readWhole (wsV RX2 166 RX0 yX0_wholeAt wsX0_wholeAt) := goodIn_app (goodIn_of _ (by decide +kernel)) ggX2_readWhole_X0_wholeAt
theorem dX2_readWhole_0 : decode cX2_readWhole 0 = .ok (.aload_n 0, 1) := by decide +kernel
theorem dX2_readWhole_1 : decode cX2_readWhole 1 = .ok (.aload_n 1, 1) := by decide +kernel
theorem dX2_readWhole_2 : decode cX2_readWhole 2 = .ok (.iload_n 2, 1) := by decide +kernel
theorem dX2_readWhole_3 : decode cX2_readWhole 3 = .ok (.aload_n 1, 1) := by decide +kernel
theorem dX2_readWhole_4 : decode cX2_readWhole 4 = .ok (.getfield 66, 3) := by decide +kernel
theorem dX2_readWhole_7 : decode cX2_readWhole 7 = .ok (.iload_n 3, 1) := by decide +kernel
theorem dX2_readWhole_8 : decode cX2_readWhole 8 = .ok (.invokestatic 83, 3) := by decide +kernel
theorem dX2_readWhole_11 : decode cX2_readWhole 11 = .ok (.invokevirtual 72, 3) := by decide +kernel
theorem dX2_readWhole_14 : decode cX2_readWhole 14 = .ok (.istore 4, 2) := by decide +kernel
theorem dX2_readWhole_16 : decode cX2_readWhole 16 = .ok (.iload 4, 2) := by decide +kernel
theorem dX2_readWhole_18 : decode cX2_readWhole 18 = .ok (.ifCond .ne 11, 3) := by decide +kernel
theorem dX2_readWhole_21 : decode cX2_readWhole 21 = .ok (.aload_n 1, 1) := by decide +kernel
theorem dX2_readWhole_22 : decode cX2_readWhole 22 = .ok (.iload_n 2, 1) := by decide +kernel
theorem dX2_readWhole_23 : decode cX2_readWhole 23 = .ok (.invokevirtual 166, 3) := by decide +kernel
theorem dX2_readWhole_26 : decode cX2_readWhole 26 = .ok (.goto 4, 3) := by decide +kernel
theorem dX2_readWhole_29 : decode cX2_readWhole 29 = .ok (.lconst 0, 1) := by decide +kernel
theorem dX2_readWhole_30 : decode cX2_readWhole 30 = .ok (.lreturn, 1) := by decide +kernel
set_option maxRecDepth 20000 in
theorem ggX2_readReal_X2_codeOfCell : GoodIn wsX2_readReal wsX2_codeOfCell := goodIn_r _ [5, 6, 7, 8, 4, 9, 1, 10, 11, 12, 13, 14, 15, 40, 41, 42, 43] (by decide +kernel) (by decide +kernel)
set_option maxRecDepth 20000 in
theorem gX2_readReal_X2_codeOfCell : GoodIn wsX2_readReal (va_wsS RX2 83 yX2_codeOfCell wsX2_codeOfCell) := goodIn_app (goodIn_of _ (by decide +kernel)) ggX2_readReal_X2_codeOfCell
set_option maxRecDepth 20000 in
theorem ggX2_readReal_X2_note : GoodIn wsX2_readReal wsX2_note := goodIn_r _ [19, 20, 21, 44, 45, 46, 47, 48] (by decide +kernel) (by decide +kernel)
set_option maxRecDepth 20000 in
theorem gX2_readReal_X2_note : GoodIn wsX2_readReal (wsV RX2 72 RX2 yX2_note wsX2_note) := goodIn_app (goodIn_of _ (by decide +kernel)) ggX2_readReal_X2_note
set_option maxRecDepth 20000 in
theorem ggX2_readReal_X0_doubleAt : GoodIn wsX2_readReal wsX0_doubleAt := goodIn_r _ [26, 27, 28, 4, 29, 30, 31, 32, 25, 33, 34, 35, 36, 37, 38, 39, 40, 41, 42, 43] (by decide +kernel) (by decide +kernel)
set_option maxRecDepth 20000 in
theorem gX2_readReal_X0_doubleAt : GoodIn wsX2_readReal (wsV RX2 170 RX0 yX0_doubleAt wsX0_doubleAt) := goodIn_app (goodIn_of _ (by decide +kernel)) ggX2_readReal_X0_doubleAt
theorem dX2_readReal_0 : decode cX2_readReal 0 = .ok (.aload_n 0, 1) := by decide +kernel
theorem dX2_readReal_1 : decode cX2_readReal 1 = .ok (.aload_n 1, 1) := by decide +kernel
theorem dX2_readReal_2 : decode cX2_readReal 2 = .ok (.iload_n 2, 1) := by decide +kernel
theorem dX2_readReal_3 : decode cX2_readReal 3 = .ok (.aload_n 1, 1) := by decide +kernel
theorem dX2_readReal_4 : decode cX2_readReal 4 = .ok (.getfield 66, 3) := by decide +kernel
theorem dX2_readReal_7 : decode cX2_readReal 7 = .ok (.iload_n 3, 1) := by decide +kernel
theorem dX2_readReal_8 : decode cX2_readReal 8 = .ok (.invokestatic 83, 3) := by decide +kernel
theorem dX2_readReal_11 : decode cX2_readReal 11 = .ok (.invokevirtual 72, 3) := by decide +kernel
theorem dX2_readReal_14 : decode cX2_readReal 14 = .ok (.istore 4, 2) := by decide +kernel
theorem dX2_readReal_16 : decode cX2_readReal 16 = .ok (.iload 4, 2) := by decide +kernel
theorem dX2_readReal_18 : decode cX2_readReal 18 = .ok (.ifCond .ne 11, 3) := by decide +kernel
theorem dX2_readReal_21 : decode cX2_readReal 21 = .ok (.aload_n 1, 1) := by decide +kernel
theorem dX2_readReal_22 : decode cX2_readReal 22 = .ok (.iload_n 2, 1) := by decide +kernel
theorem dX2_readReal_23 : decode cX2_readReal 23 = .ok (.invokevirtual 170, 3) := by decide +kernel
theorem dX2_readReal_26 : decode cX2_readReal 26 = .ok (.goto 4, 3) := by decide +kernel
theorem dX2_readReal_29 : decode cX2_readReal 29 = .ok (.dconst 0, 1) := by decide +kernel
theorem dX2_readReal_30 : decode cX2_readReal 30 = .ok (.dreturn, 1) := by decide +kernel
set_option maxRecDepth 20000 in
theorem ggX2_writeWhole_X2_codeOfCell : GoodIn wsX2_writeWhole wsX2_codeOfCell := goodIn_r _ [5, 6, 7, 8, 4, 9, 1, 10, 11, 12, 13, 14, 15, 34, 35, 36, 37] (by decide +kernel) (by decide +kernel)
set_option maxRecDepth 20000 in
theorem gX2_writeWhole_X2_codeOfCell : GoodIn wsX2_writeWhole (va_wsS RX2 83 yX2_codeOfCell wsX2_codeOfCell) := goodIn_app (goodIn_of _ (by decide +kernel)) ggX2_writeWhole_X2_codeOfCell
set_option maxRecDepth 20000 in
theorem ggX2_writeWhole_X2_note : GoodIn wsX2_writeWhole wsX2_note := goodIn_r _ [19, 20, 21, 38, 39, 40, 41, 42] (by decide +kernel) (by decide +kernel)
set_option maxRecDepth 20000 in
theorem gX2_writeWhole_X2_note : GoodIn wsX2_writeWhole (wsV RX2 72 RX2 yX2_note wsX2_note) := goodIn_app (goodIn_of _ (by decide +kernel)) ggX2_writeWhole_X2_note
set_option maxRecDepth 20000 in
theorem ggX2_writeWhole_X0_putWhole : GoodIn wsX2_writeWhole wsX0_putWhole := goodIn_r _ [26, 27, 28, 29, 30, 31, 25, 32, 33, 34, 35, 36, 37] (by decide +kernel) (by decide +kernel)
set_option maxRecDepth 20000 in
theorem gX2_writeWhole_X0_putWhole : GoodIn wsX2_writeWhole (wsV RX2 174 RX0 yX0_putWhole wsX0_putWhole) := goodIn_app (goodIn_of _ (by decide +kernel)) ggX2_writeWhole_X0_putWhole
theorem dX2_writeWhole_0 : decode cX2_writeWhole 0 = .ok (.aload_n 0, 1) := by decide +kernel
theorem dX2_writeWhole_1 : decode cX2_writeWhole 1 = .ok (.aload_n 1, 1) := by decide +kernel
theorem dX2_writeWhole_2 : decode cX2_writeWhole 2 = .ok (.iload_n 2, 1) := by decide +kernel
theorem dX2_writeWhole_3 : decode cX2_writeWhole 3 = .ok (.iload_n 3, 1) := by decide +kernel
theorem dX2_writeWhole_4 : decode cX2_writeWhole 4 = .ok (.aload_n 1, 1) := by decide +kernel
theorem dX2_writeWhole_5 : decode cX2_writeWhole 5 = .ok (.getfield 66, 3) := by decide +kernel
theorem dX2_writeWhole_8 : decode cX2_writeWhole 8 = .ok (.invokestatic 83, 3) := by decide +kernel
theorem dX2_writeWhole_11 : decode cX2_writeWhole 11 = .ok (.invokevirtual 72, 3) := by decide +kernel
theorem dX2_writeWhole_14 : decode cX2_writeWhole 14 = .ok (.istore 6, 2) := by decide +kernel
theorem dX2_writeWhole_16 : decode cX2_writeWhole 16 = .ok (.iload 6, 2) := by decide +kernel
theorem dX2_writeWhole_18 : decode cX2_writeWhole 18 = .ok (.ifCond .ne 10, 3) := by decide +kernel
theorem dX2_writeWhole_21 : decode cX2_writeWhole 21 = .ok (.aload_n 1, 1) := by decide +kernel
theorem dX2_writeWhole_22 : decode cX2_writeWhole 22 = .ok (.iload_n 2, 1) := by decide +kernel
theorem dX2_writeWhole_23 : decode cX2_writeWhole 23 = .ok (.lload 4, 2) := by decide +kernel
theorem dX2_writeWhole_25 : decode cX2_writeWhole 25 = .ok (.invokevirtual 174, 3) := by decide +kernel
theorem dX2_writeWhole_28 : decode cX2_writeWhole 28 = .ok (.iload 6, 2) := by decide +kernel
theorem dX2_writeWhole_30 : decode cX2_writeWhole 30 = .ok (.ireturn, 1) := by decide +kernel
set_option maxRecDepth 20000 in
theorem ggX2_writeReal_X2_codeOfCell : GoodIn wsX2_writeReal wsX2_codeOfCell := goodIn_r _ [5, 6, 7, 8, 4, 9, 1, 10, 11, 12, 13, 14, 15, 28, 29, 30, 31] (by decide +kernel) (by decide +kernel)
set_option maxRecDepth 20000 in
theorem gX2_writeReal_X2_codeOfCell : GoodIn wsX2_writeReal (va_wsS RX2 83 yX2_codeOfCell wsX2_codeOfCell) := goodIn_app (goodIn_of _ (by decide +kernel)) ggX2_writeReal_X2_codeOfCell
set_option maxRecDepth 20000 in
theorem ggX2_writeReal_X2_note : GoodIn wsX2_writeReal wsX2_note := goodIn_r _ [19, 20, 21, 32, 33, 34, 35, 36] (by decide +kernel) (by decide +kernel)
set_option maxRecDepth 20000 in
theorem gX2_writeReal_X2_note : GoodIn wsX2_writeReal (wsV RX2 72 RX2 yX2_note wsX2_note) := goodIn_app (goodIn_of _ (by decide +kernel)) ggX2_writeReal_X2_note
set_option maxRecDepth 20000 in
theorem ggX2_writeReal_X0_putReal : GoodIn wsX2_writeReal wsX0_putReal := goodIn_r _ [26, 27, 28, 29, 30, 31] (by decide +kernel) (by decide +kernel)
set_option maxRecDepth 20000 in
theorem gX2_writeReal_X0_putReal : GoodIn wsX2_writeReal (wsV RX2 178 RX0 yX0_putReal wsX0_putReal) := goodIn_app (goodIn_of _ (by decide +kernel)) ggX2_writeReal_X0_putReal
theorem dX2_writeReal_0 : decode cX2_writeReal 0 = .ok (.aload_n 0, 1) := by decide +kernel
theorem dX2_writeReal_1 : decode cX2_writeReal 1 = .ok (.aload_n 1, 1) := by decide +kernel
theorem dX2_writeReal_2 : decode cX2_writeReal 2 = .ok (.iload_n 2, 1) := by decide +kernel
theorem dX2_writeReal_3 : decode cX2_writeReal 3 = .ok (.iload_n 3, 1) := by decide +kernel
theorem dX2_writeReal_4 : decode cX2_writeReal 4 = .ok (.aload_n 1, 1) := by decide +kernel
theorem dX2_writeReal_5 : decode cX2_writeReal 5 = .ok (.getfield 66, 3) := by decide +kernel
theorem dX2_writeReal_8 : decode cX2_writeReal 8 = .ok (.invokestatic 83, 3) := by decide +kernel
theorem dX2_writeReal_11 : decode cX2_writeReal 11 = .ok (.invokevirtual 72, 3) := by decide +kernel
theorem dX2_writeReal_14 : decode cX2_writeReal 14 = .ok (.istore 6, 2) := by decide +kernel
theorem dX2_writeReal_16 : decode cX2_writeReal 16 = .ok (.iload 6, 2) := by decide +kernel
theorem dX2_writeReal_18 : decode cX2_writeReal 18 = .ok (.ifCond .ne 10, 3) := by decide +kernel
theorem dX2_writeReal_21 : decode cX2_writeReal 21 = .ok (.aload_n 1, 1) := by decide +kernel
theorem dX2_writeReal_22 : decode cX2_writeReal 22 = .ok (.iload_n 2, 1) := by decide +kernel
theorem dX2_writeReal_23 : decode cX2_writeReal 23 = .ok (.dload 4, 2) := by decide +kernel
theorem dX2_writeReal_25 : decode cX2_writeReal 25 = .ok (.invokevirtual 178, 3) := by decide +kernel
theorem dX2_writeReal_28 : decode cX2_writeReal 28 = .ok (.iload 6, 2) := by decide +kernel
theorem dX2_writeReal_30 : decode cX2_writeReal 30 = .ok (.ireturn, 1) := by decide +kernel
theorem dX2_wholeMadeFrom_0 : decode cX2_wholeMadeFrom 0 = .ok (.iload_n 1, 1) := by decide +kernel
theorem dX2_wholeMadeFrom_1 : decode cX2_wholeMadeFrom 1 = .ok (.tableswitch 53 1 4 #[31, 41, 45, 49], 31) := by decide +kernel
theorem dX2_wholeMadeFrom_32 : decode cX2_wholeMadeFrom 32 = .ok (.iload_n 0, 1) := by decide +kernel
theorem dX2_wholeMadeFrom_33 : decode cX2_wholeMadeFrom 33 = .ok (.ifCond .eq 7, 3) := by decide +kernel
theorem dX2_wholeMadeFrom_36 : decode cX2_wholeMadeFrom 36 = .ok (.lconst 1, 1) := by decide +kernel
theorem dX2_wholeMadeFrom_37 : decode cX2_wholeMadeFrom 37 = .ok (.goto 4, 3) := by decide +kernel
theorem dX2_wholeMadeFrom_40 : decode cX2_wholeMadeFrom 40 = .ok (.lconst 0, 1) := by decide +kernel
theorem dX2_wholeMadeFrom_41 : decode cX2_wholeMadeFrom 41 = .ok (.lreturn, 1) := by decide +kernel
theorem dX2_wholeMadeFrom_42 : decode cX2_wholeMadeFrom 42 = .ok (.iload_n 0, 1) := by decide +kernel
theorem dX2_wholeMadeFrom_43 : decode cX2_wholeMadeFrom 43 = .ok (.i2b, 1) := by decide +kernel
theorem dX2_wholeMadeFrom_44 : decode cX2_wholeMadeFrom 44 = .ok (.i2l, 1) := by decide +kernel
theorem dX2_wholeMadeFrom_45 : decode cX2_wholeMadeFrom 45 = .ok (.lreturn, 1) := by decide +kernel
theorem dX2_wholeMadeFrom_46 : decode cX2_wholeMadeFrom 46 = .ok (.iload_n 0, 1) := by decide +kernel
theorem dX2_wholeMadeFrom_47 : decode cX2_wholeMadeFrom 47 = .ok (.i2c, 1) := by decide +kernel
theorem dX2_wholeMadeFrom_48 : decode cX2_wholeMadeFrom 48 = .ok (.i2l, 1) := by decide +kernel
theorem dX2_wholeMadeFrom_49 : decode cX2_wholeMadeFrom 49 = .ok (.lreturn, 1) := by decide +kernel
theorem dX2_wholeMadeFrom_50 : decode cX2_wholeMadeFrom 50 = .ok (.iload_n 0, 1) := by decide +kernel
theorem dX2_wholeMadeFrom_51 : decode cX2_wholeMadeFrom 51 = .ok (.i2s, 1) := by decide +kernel
theorem dX2_wholeMadeFrom_52 : decode cX2_wholeMadeFrom 52 = .ok (.i2l, 1) := by decide +kernel
theorem dX2_wholeMadeFrom_53 : decode cX2_wholeMadeFrom 53 = .ok (.lreturn, 1) := by decide +kernel
theorem dX2_wholeMadeFrom_54 : decode cX2_wholeMadeFrom 54 = .ok (.iload_n 0, 1) := by decide +kernel
theorem dX2_wholeMadeFrom_55 : decode cX2_wholeMadeFrom 55 = .ok (.i2l, 1) := by decide +kernel
theorem dX2_wholeMadeFrom_56 : decode cX2_wholeMadeFrom 56 = .ok (.lreturn, 1) := by decide +kernel
theorem dX2_noNumber_0 : decode cX2_noNumber 0 = .ok (.ldc2_w 182, 3) := by decide +kernel
theorem dX2_noNumber_3 : decode cX2_noNumber 3 = .ok (.dreturn, 1) := by decide +kernel
theorem dX2_noFloatNumber_0 : decode cX2_noFloatNumber 0 = .ok (.ldc 184, 2) := by decide +kernel
theorem dX2_noFloatNumber_2 : decode cX2_noFloatNumber 2 = .ok (.freturn, 1) := by decide +kernel
set_option maxRecDepth 20000 in
theorem ggX2_doubleOf_X2_noNumber : GoodIn wsX2_doubleOf wsX2_noNumber := goodIn_r _ [4, 5] (by decide +kernel) (by decide +kernel)
set_option maxRecDepth 20000 in
theorem gX2_doubleOf_X2_noNumber : GoodIn wsX2_doubleOf (va_wsS RX2 185 yX2_noNumber wsX2_noNumber) := goodIn_app (goodIn_of _ (by decide +kernel)) ggX2_doubleOf_X2_noNumber
theorem dX2_doubleOf_0 : decode cX2_doubleOf 0 = .ok (.fload_n 0, 1) := by decide +kernel
theorem dX2_doubleOf_1 : decode cX2_doubleOf 1 = .ok (.fload_n 0, 1) := by decide +kernel
theorem dX2_doubleOf_2 : decode cX2_doubleOf 2 = .ok (.fcmp .l, 1) := by decide +kernel
theorem dX2_doubleOf_3 : decode cX2_doubleOf 3 = .ok (.ifCond .eq 9, 3) := by decide +kernel
theorem dX2_doubleOf_6 : decode cX2_doubleOf 6 = .ok (.invokestatic 185, 3) := by decide +kernel
theorem dX2_doubleOf_9 : decode cX2_doubleOf 9 = .ok (.goto 5, 3) := by decide +kernel
theorem dX2_doubleOf_12 : decode cX2_doubleOf 12 = .ok (.fload_n 0, 1) := by decide +kernel
theorem dX2_doubleOf_13 : decode cX2_doubleOf 13 = .ok (.f2d, 1) := by decide +kernel
theorem dX2_doubleOf_14 : decode cX2_doubleOf 14 = .ok (.dreturn, 1) := by decide +kernel
set_option maxRecDepth 20000 in
theorem ggX2_floatOf_X2_noFloatNumber : GoodIn wsX2_floatOf wsX2_noFloatNumber := goodIn_r _ [4, 5] (by decide +kernel) (by decide +kernel)
set_option maxRecDepth 20000 in
theorem gX2_floatOf_X2_noFloatNumber : GoodIn wsX2_floatOf (va_wsS RX2 188 yX2_noFloatNumber wsX2_noFloatNumber) := goodIn_app (goodIn_of _ (by decide +kernel)) ggX2_floatOf_X2_noFloatNumber
theorem dX2_floatOf_0 : decode cX2_floatOf 0 = .ok (.dload_n 0, 1) := by decide +kernel
theorem dX2_floatOf_1 : decode cX2_floatOf 1 = .ok (.dload_n 0, 1) := by decide +kernel
theorem dX2_floatOf_2 : decode cX2_floatOf 2 = .ok (.dcmp .l, 1) := by decide +kernel
theorem dX2_floatOf_3 : decode cX2_floatOf 3 = .ok (.ifCond .eq 9, 3) := by decide +kernel
theorem dX2_floatOf_6 : decode cX2_floatOf 6 = .ok (.invokestatic 188, 3) := by decide +kernel
theorem dX2_floatOf_9 : decode cX2_floatOf 9 = .ok (.goto 5, 3) := by decide +kernel
theorem dX2_floatOf_12 : decode cX2_floatOf 12 = .ok (.dload_n 0, 1) := by decide +kernel
theorem dX2_floatOf_13 : decode cX2_floatOf 13 = .ok (.d2f, 1) := by decide +kernel
theorem dX2_floatOf_14 : decode cX2_floatOf 14 = .ok (.freturn, 1) := by decide +kernel
theorem dX2_isInfinite_0 : decode cX2_isInfinite 0 = .ok (.dload_n 0, 1) := by decide +kernel
theorem dX2_isInfinite_1 : decode cX2_isInfinite 1 = .ok (.ldc2_w 192, 3) := by decide +kernel
theorem dX2_isInfinite_4 : decode cX2_isInfinite 4 = .ok (.dcmp .l, 1) := by decide +kernel
theorem dX2_isInfinite_5 : decode cX2_isInfinite 5 = .ok (.ifCond .gt 11, 3) := by decide +kernel
theorem dX2_isInfinite_8 : decode cX2_isInfinite 8 = .ok (.dload_n 0, 1) := by decide +kernel
theorem dX2_isInfinite_9 : decode cX2_isInfinite 9 = .ok (.ldc2_w 194, 3) := by decide +kernel
theorem dX2_isInfinite_12 : decode cX2_isInfinite 12 = .ok (.dcmp .g, 1) := by decide +kernel
theorem dX2_isInfinite_13 : decode cX2_isInfinite 13 = .ok (.ifCond .ge 7, 3) := by decide +kernel
theorem dX2_isInfinite_16 : decode cX2_isInfinite 16 = .ok (.iconst 1, 1) := by decide +kernel
theorem dX2_isInfinite_17 : decode cX2_isInfinite 17 = .ok (.goto 4, 3) := by decide +kernel
theorem dX2_isInfinite_20 : decode cX2_isInfinite 20 = .ok (.iconst 0, 1) := by decide +kernel
theorem dX2_isInfinite_21 : decode cX2_isInfinite 21 = .ok (.ireturn, 1) := by decide +kernel
set_option maxRecDepth 20000 in
theorem ggX2_sumOf_X2_isInfinite : GoodIn wsX2_sumOf wsX2_isInfinite := goodIn_r _ [4, 5, 6] (by decide +kernel) (by decide +kernel)
set_option maxRecDepth 20000 in
theorem gX2_sumOf_X2_isInfinite : GoodIn wsX2_sumOf (va_wsS RX2 196 yX2_isInfinite wsX2_isInfinite) := goodIn_app (goodIn_of _ (by decide +kernel)) ggX2_sumOf_X2_isInfinite
set_option maxRecDepth 20000 in
theorem ggX2_sumOf_X2_noNumber : GoodIn wsX2_sumOf wsX2_noNumber := goodIn_r _ [9, 10] (by decide +kernel) (by decide +kernel)
set_option maxRecDepth 20000 in
theorem gX2_sumOf_X2_noNumber : GoodIn wsX2_sumOf (va_wsS RX2 185 yX2_noNumber wsX2_noNumber) := goodIn_app (goodIn_of _ (by decide +kernel)) ggX2_sumOf_X2_noNumber
theorem dX2_sumOf_0 : decode cX2_sumOf 0 = .ok (.dload_n 0, 1) := by decide +kernel
theorem dX2_sumOf_1 : decode cX2_sumOf 1 = .ok (.dload_n 0, 1) := by decide +kernel
theorem dX2_sumOf_2 : decode cX2_sumOf 2 = .ok (.dcmp .l, 1) := by decide +kernel
theorem dX2_sumOf_3 : decode cX2_sumOf 3 = .ok (.ifCond .ne 23, 3) := by decide +kernel
theorem dX2_sumOf_6 : decode cX2_sumOf 6 = .ok (.dload_n 2, 1) := by decide +kernel
theorem dX2_sumOf_7 : decode cX2_sumOf 7 = .ok (.dload_n 2, 1) := by decide +kernel
theorem dX2_sumOf_8 : decode cX2_sumOf 8 = .ok (.dcmp .l, 1) := by decide +kernel
theorem dX2_sumOf_9 : decode cX2_sumOf 9 = .ok (.ifCond .ne 17, 3) := by decide +kernel
theorem dX2_sumOf_12 : decode cX2_sumOf 12 = .ok (.dload_n 0, 1) := by decide +kernel
theorem dX2_sumOf_13 : decode cX2_sumOf 13 = .ok (.invokestatic 196, 3) := by decide +kernel
theorem dX2_sumOf_16 : decode cX2_sumOf 16 = .ok (.ifCond .eq 14, 3) := by decide +kernel
theorem dX2_sumOf_19 : decode cX2_sumOf 19 = .ok (.dload_n 0, 1) := by decide +kernel
theorem dX2_sumOf_20 : decode cX2_sumOf 20 = .ok (.dload_n 2, 1) := by decide +kernel
theorem dX2_sumOf_21 : decode cX2_sumOf 21 = .ok (.dneg, 1) := by decide +kernel
theorem dX2_sumOf_22 : decode cX2_sumOf 22 = .ok (.dcmp .l, 1) := by decide +kernel
theorem dX2_sumOf_23 : decode cX2_sumOf 23 = .ok (.ifCond .ne 7, 3) := by decide +kernel
theorem dX2_sumOf_26 : decode cX2_sumOf 26 = .ok (.invokestatic 185, 3) := by decide +kernel
theorem dX2_sumOf_29 : decode cX2_sumOf 29 = .ok (.dreturn, 1) := by decide +kernel
theorem dX2_sumOf_30 : decode cX2_sumOf 30 = .ok (.dload_n 0, 1) := by decide +kernel
theorem dX2_sumOf_31 : decode cX2_sumOf 31 = .ok (.dload_n 2, 1) := by decide +kernel
theorem dX2_sumOf_32 : decode cX2_sumOf 32 = .ok (.dadd, 1) := by decide +kernel
theorem dX2_sumOf_33 : decode cX2_sumOf 33 = .ok (.dreturn, 1) := by decide +kernel
theorem dX2_mixed_0 : decode cX2_mixed 0 = .ok (.lload_n 0, 1) := by decide +kernel
theorem dX2_mixed_1 : decode cX2_mixed 1 = .ok (.ldc2_w 200, 3) := by decide +kernel
theorem dX2_mixed_4 : decode cX2_mixed 4 = .ok (.lmul, 1) := by decide +kernel
theorem dX2_mixed_5 : decode cX2_mixed 5 = .ok (.lload_n 2, 1) := by decide +kernel
theorem dX2_mixed_6 : decode cX2_mixed 6 = .ok (.ladd, 1) := by decide +kernel
theorem dX2_mixed_7 : decode cX2_mixed 7 = .ok (.lreturn, 1) := by decide +kernel
set_option maxRecDepth 20000 in
theorem ggX2_mixedColumn_X2_mixed : GoodIn wsX2_mixedColumn wsX2_mixed := goodIn_r _ [9, 10] (by decide +kernel) (by decide +kernel)
set_option maxRecDepth 20000 in
theorem gX2_mixedColumn_X2_mixed : GoodIn wsX2_mixedColumn (va_wsS RX2 149 yX2_mixed wsX2_mixed) := goodIn_app (goodIn_of _ (by decide +kernel)) ggX2_mixedColumn_X2_mixed
set_option maxRecDepth 20000 in
theorem ggX2_mixedColumn_X1_of : GoodIn wsX2_mixedColumn wsX1_of := goodIn_r _ [15, 16, 17, 18, 19, 20, 14, 21, 22, 23, 24, 25, 8, 26, 27, 28, 29, 30, 31, 32, 33, 34, 35, 36, 46] (by decide +kernel) (by decide +kernel)
set_option maxRecDepth 20000 in
theorem gX2_mixedColumn_X1_of : GoodIn wsX2_mixedColumn (wsV RX2 210 RX1 yX1_of wsX1_of) := goodIn_app (goodIn_of _ (by decide +kernel)) ggX2_mixedColumn_X1_of
theorem dX2_mixedColumn_0 : decode cX2_mixedColumn 0 = .ok (.lload_n 1, 1) := by decide +kernel
theorem dX2_mixedColumn_1 : decode cX2_mixedColumn 1 = .ok (.aload_n 3, 1) := by decide +kernel
theorem dX2_mixedColumn_2 : decode cX2_mixedColumn 2 = .ok (.getfield 66, 3) := by decide +kernel
theorem dX2_mixedColumn_5 : decode cX2_mixedColumn 5 = .ok (.i2l, 1) := by decide +kernel
theorem dX2_mixedColumn_6 : decode cX2_mixedColumn 6 = .ok (.invokestatic 149, 3) := by decide +kernel
theorem dX2_mixedColumn_9 : decode cX2_mixedColumn 9 = .ok (.aload_n 3, 1) := by decide +kernel
theorem dX2_mixedColumn_10 : decode cX2_mixedColumn 10 = .ok (.getfield 76, 3) := by decide +kernel
theorem dX2_mixedColumn_13 : decode cX2_mixedColumn 13 = .ok (.i2l, 1) := by decide +kernel
theorem dX2_mixedColumn_14 : decode cX2_mixedColumn 14 = .ok (.invokestatic 149, 3) := by decide +kernel
theorem dX2_mixedColumn_17 : decode cX2_mixedColumn 17 = .ok (.lstore 4, 2) := by decide +kernel
theorem dX2_mixedColumn_19 : decode cX2_mixedColumn 19 = .ok (.aload_n 3, 1) := by decide +kernel
theorem dX2_mixedColumn_20 : decode cX2_mixedColumn 20 = .ok (.getfield 202, 3) := by decide +kernel
theorem dX2_mixedColumn_23 : decode cX2_mixedColumn 23 = .ok (.astore 6, 2) := by decide +kernel
theorem dX2_mixedColumn_25 : decode cX2_mixedColumn 25 = .ok (.aload 6, 2) := by decide +kernel
theorem dX2_mixedColumn_27 : decode cX2_mixedColumn 27 = .ok (.arraylength, 1) := by decide +kernel
theorem dX2_mixedColumn_28 : decode cX2_mixedColumn 28 = .ok (.istore 7, 2) := by decide +kernel
theorem dX2_mixedColumn_30 : decode cX2_mixedColumn 30 = .ok (.iconst 0, 1) := by decide +kernel
theorem dX2_mixedColumn_31 : decode cX2_mixedColumn 31 = .ok (.istore 8, 2) := by decide +kernel
theorem dX2_mixedColumn_33 : decode cX2_mixedColumn 33 = .ok (.iload 8, 2) := by decide +kernel
theorem dX2_mixedColumn_35 : decode cX2_mixedColumn 35 = .ok (.iload 7, 2) := by decide +kernel
theorem dX2_mixedColumn_37 : decode cX2_mixedColumn 37 = .ok (.if_icmp .ge 25, 3) := by decide +kernel
theorem dX2_mixedColumn_40 : decode cX2_mixedColumn 40 = .ok (.aload 6, 2) := by decide +kernel
theorem dX2_mixedColumn_42 : decode cX2_mixedColumn 42 = .ok (.iload 8, 2) := by decide +kernel
theorem dX2_mixedColumn_44 : decode cX2_mixedColumn 44 = .ok (.laload, 1) := by decide +kernel
theorem dX2_mixedColumn_45 : decode cX2_mixedColumn 45 = .ok (.lstore 9, 2) := by decide +kernel
theorem dX2_mixedColumn_47 : decode cX2_mixedColumn 47 = .ok (.lload 4, 2) := by decide +kernel
theorem dX2_mixedColumn_49 : decode cX2_mixedColumn 49 = .ok (.lload 9, 2) := by decide +kernel
theorem dX2_mixedColumn_51 : decode cX2_mixedColumn 51 = .ok (.invokestatic 149, 3) := by decide +kernel
theorem dX2_mixedColumn_54 : decode cX2_mixedColumn 54 = .ok (.lstore 4, 2) := by decide +kernel
theorem dX2_mixedColumn_56 : decode cX2_mixedColumn 56 = .ok (.iinc 8 1, 3) := by decide +kernel
theorem dX2_mixedColumn_59 : decode cX2_mixedColumn 59 = .ok (.goto (-26), 3) := by decide +kernel
theorem dX2_mixedColumn_62 : decode cX2_mixedColumn 62 = .ok (.aload_n 3, 1) := by decide +kernel
theorem dX2_mixedColumn_63 : decode cX2_mixedColumn 63 = .ok (.getfield 206, 3) := by decide +kernel
theorem dX2_mixedColumn_66 : decode cX2_mixedColumn 66 = .ok (.astore 6, 2) := by decide +kernel
theorem dX2_mixedColumn_68 : decode cX2_mixedColumn 68 = .ok (.aload 6, 2) := by decide +kernel
theorem dX2_mixedColumn_70 : decode cX2_mixedColumn 70 = .ok (.arraylength, 1) := by decide +kernel
theorem dX2_mixedColumn_71 : decode cX2_mixedColumn 71 = .ok (.istore 7, 2) := by decide +kernel
theorem dX2_mixedColumn_73 : decode cX2_mixedColumn 73 = .ok (.iconst 0, 1) := by decide +kernel
theorem dX2_mixedColumn_74 : decode cX2_mixedColumn 74 = .ok (.istore 8, 2) := by decide +kernel
theorem dX2_mixedColumn_76 : decode cX2_mixedColumn 76 = .ok (.iload 8, 2) := by decide +kernel
theorem dX2_mixedColumn_78 : decode cX2_mixedColumn 78 = .ok (.iload 7, 2) := by decide +kernel
theorem dX2_mixedColumn_80 : decode cX2_mixedColumn 80 = .ok (.if_icmp .ge 32, 3) := by decide +kernel
theorem dX2_mixedColumn_83 : decode cX2_mixedColumn 83 = .ok (.aload 6, 2) := by decide +kernel
theorem dX2_mixedColumn_85 : decode cX2_mixedColumn 85 = .ok (.iload 8, 2) := by decide +kernel
theorem dX2_mixedColumn_87 : decode cX2_mixedColumn 87 = .ok (.daload, 1) := by decide +kernel
theorem dX2_mixedColumn_88 : decode cX2_mixedColumn 88 = .ok (.dstore 9, 2) := by decide +kernel
theorem dX2_mixedColumn_90 : decode cX2_mixedColumn 90 = .ok (.lload 4, 2) := by decide +kernel
theorem dX2_mixedColumn_92 : decode cX2_mixedColumn 92 = .ok (.aload_n 0, 1) := by decide +kernel
theorem dX2_mixedColumn_93 : decode cX2_mixedColumn 93 = .ok (.getfield 22, 3) := by decide +kernel
theorem dX2_mixedColumn_96 : decode cX2_mixedColumn 96 = .ok (.dload 9, 2) := by decide +kernel
theorem dX2_mixedColumn_98 : decode cX2_mixedColumn 98 = .ok (.invokevirtual 210, 3) := by decide +kernel
theorem dX2_mixedColumn_101 : decode cX2_mixedColumn 101 = .ok (.invokestatic 149, 3) := by decide +kernel
theorem dX2_mixedColumn_104 : decode cX2_mixedColumn 104 = .ok (.lstore 4, 2) := by decide +kernel
theorem dX2_mixedColumn_106 : decode cX2_mixedColumn 106 = .ok (.iinc 8 1, 3) := by decide +kernel
theorem dX2_mixedColumn_109 : decode cX2_mixedColumn 109 = .ok (.goto (-33), 3) := by decide +kernel
theorem dX2_mixedColumn_112 : decode cX2_mixedColumn 112 = .ok (.lload 4, 2) := by decide +kernel
theorem dX2_mixedColumn_114 : decode cX2_mixedColumn 114 = .ok (.lreturn, 1) := by decide +kernel

