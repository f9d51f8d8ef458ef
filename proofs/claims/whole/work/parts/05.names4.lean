theorem dX3_init_0 : decode cX3_init 0 = .ok (.aload_n 0, 1) := by decide +kernel
theorem dX3_init_1 : decode cX3_init 1 = .ok (.invokespecial 1, 3) := by decide +kernel
theorem dX3_init_4 : decode cX3_init 4 = .ok (.aload_n 0, 1) := by decide +kernel
theorem dX3_init_5 : decode cX3_init 5 = .ok (.bipush 60, 2) := by decide +kernel
theorem dX3_init_7 : decode cX3_init 7 = .ok (.newarray .int, 2) := by decide +kernel
theorem dX3_init_9 : decode cX3_init 9 = .ok (.putfield 9, 3) := by decide +kernel
theorem dX3_init_12 : decode cX3_init 12 = .ok (.aload_n 0, 1) := by decide +kernel
theorem dX3_init_13 : decode cX3_init 13 = .ok (.bipush 60, 2) := by decide +kernel
theorem dX3_init_15 : decode cX3_init 15 = .ok (.newarray .int, 2) := by decide +kernel
theorem dX3_init_17 : decode cX3_init 17 = .ok (.putfield 13, 3) := by decide +kernel
theorem dX3_init_20 : decode cX3_init 20 = .ok (.aload_n 0, 1) := by decide +kernel
theorem dX3_init_21 : decode cX3_init 21 = .ok (.sipush 2400, 3) := by decide +kernel
theorem dX3_init_24 : decode cX3_init 24 = .ok (.newarray .long, 2) := by decide +kernel
theorem dX3_init_26 : decode cX3_init 26 = .ok (.putfield 16, 3) := by decide +kernel
theorem dX3_init_29 : decode cX3_init 29 = .ok (.aload_n 0, 1) := by decide +kernel
theorem dX3_init_30 : decode cX3_init 30 = .ok (.sipush 2400, 3) := by decide +kernel
theorem dX3_init_33 : decode cX3_init 33 = .ok (.newarray .double, 2) := by decide +kernel
theorem dX3_init_35 : decode cX3_init 35 = .ok (.putfield 20, 3) := by decide +kernel
theorem dX3_init_38 : decode cX3_init 38 = .ok (.aload_n 0, 1) := by decide +kernel
theorem dX3_init_39 : decode cX3_init 39 = .ok (.bipush 6, 2) := by decide +kernel
theorem dX3_init_41 : decode cX3_init 41 = .ok (.newarray .int, 2) := by decide +kernel
theorem dX3_init_43 : decode cX3_init 43 = .ok (.putfield 24, 3) := by decide +kernel
theorem dX3_init_46 : decode cX3_init 46 = .ok (.return_, 1) := by decide +kernel
theorem dX3_thrown_0 : decode cX3_thrown 0 = .ok (.aload_n 0, 1) := by decide +kernel
theorem dX3_thrown_1 : decode cX3_thrown 1 = .ok (.getfield 27, 3) := by decide +kernel
theorem dX3_thrown_4 : decode cX3_thrown 4 = .ok (.ireturn, 1) := by decide +kernel
theorem dX3_fail_0 : decode cX3_fail 0 = .ok (.aload_n 0, 1) := by decide +kernel
theorem dX3_fail_1 : decode cX3_fail 1 = .ok (.iload_n 1, 1) := by decide +kernel
theorem dX3_fail_2 : decode cX3_fail 2 = .ok (.putfield 27, 3) := by decide +kernel
theorem dX3_fail_5 : decode cX3_fail 5 = .ok (.iconst 0, 1) := by decide +kernel
theorem dX3_fail_6 : decode cX3_fail 6 = .ok (.ireturn, 1) := by decide +kernel
theorem dX3_isColumn_0 : decode cX3_isColumn 0 = .ok (.iload_n 1, 1) := by decide +kernel
theorem dX3_isColumn_1 : decode cX3_isColumn 1 = .ok (.ifCond .lt 15, 3) := by decide +kernel
theorem dX3_isColumn_4 : decode cX3_isColumn 4 = .ok (.iload_n 1, 1) := by decide +kernel
theorem dX3_isColumn_5 : decode cX3_isColumn 5 = .ok (.aload_n 0, 1) := by decide +kernel
theorem dX3_isColumn_6 : decode cX3_isColumn 6 = .ok (.getfield 31, 3) := by decide +kernel
theorem dX3_isColumn_9 : decode cX3_isColumn 9 = .ok (.if_icmp .ge 7, 3) := by decide +kernel
theorem dX3_isColumn_12 : decode cX3_isColumn 12 = .ok (.iconst 1, 1) := by decide +kernel
theorem dX3_isColumn_13 : decode cX3_isColumn 13 = .ok (.goto 4, 3) := by decide +kernel
theorem dX3_isColumn_16 : decode cX3_isColumn 16 = .ok (.iconst 0, 1) := by decide +kernel
theorem dX3_isColumn_17 : decode cX3_isColumn 17 = .ok (.ireturn, 1) := by decide +kernel
theorem dX3_isReal_0 : decode cX3_isReal 0 = .ok (.iload_n 0, 1) := by decide +kernel
theorem dX3_isReal_1 : decode cX3_isReal 1 = .ok (.bipush 7, 2) := by decide +kernel
theorem dX3_isReal_3 : decode cX3_isReal 3 = .ok (.if_icmp .lt 7, 3) := by decide +kernel
theorem dX3_isReal_6 : decode cX3_isReal 6 = .ok (.iconst 1, 1) := by decide +kernel
theorem dX3_isReal_7 : decode cX3_isReal 7 = .ok (.goto 4, 3) := by decide +kernel
theorem dX3_isReal_10 : decode cX3_isReal 10 = .ok (.iconst 0, 1) := by decide +kernel
theorem dX3_isReal_11 : decode cX3_isReal 11 = .ok (.ireturn, 1) := by decide +kernel
theorem dX3_has_0 : decode cX3_has 0 = .ok (.iload_n 0, 1) := by decide +kernel
theorem dX3_has_1 : decode cX3_has 1 = .ok (.ifCond .le 13, 3) := by decide +kernel
theorem dX3_has_4 : decode cX3_has 4 = .ok (.iload_n 0, 1) := by decide +kernel
theorem dX3_has_5 : decode cX3_has 5 = .ok (.bipush 9, 2) := by decide +kernel
theorem dX3_has_7 : decode cX3_has 7 = .ok (.if_icmp .ge 7, 3) := by decide +kernel
theorem dX3_has_10 : decode cX3_has 10 = .ok (.iconst 1, 1) := by decide +kernel
theorem dX3_has_11 : decode cX3_has 11 = .ok (.goto 4, 3) := by decide +kernel
theorem dX3_has_14 : decode cX3_has 14 = .ok (.iconst 0, 1) := by decide +kernel
theorem dX3_has_15 : decode cX3_has 15 = .ok (.ireturn, 1) := by decide +kernel
set_option maxRecDepth 20000 in
theorem ggX3_widens_X3_has : GoodIn wsX3_widens wsX3_has := goodIn_r _ [4] (by decide +kernel) (by decide +kernel)
set_option maxRecDepth 20000 in
theorem gX3_widens_X3_has : GoodIn wsX3_widens (va_wsS RX3 34 yX3_has wsX3_has) := goodIn_app (goodIn_of _ (by decide +kernel)) ggX3_widens_X3_has
theorem dX3_widens_0 : decode cX3_widens 0 = .ok (.iload_n 0, 1) := by decide +kernel
theorem dX3_widens_1 : decode cX3_widens 1 = .ok (.invokestatic 34, 3) := by decide +kernel
theorem dX3_widens_4 : decode cX3_widens 4 = .ok (.ifCond .eq 10, 3) := by decide +kernel
theorem dX3_widens_7 : decode cX3_widens 7 = .ok (.iload_n 1, 1) := by decide +kernel
theorem dX3_widens_8 : decode cX3_widens 8 = .ok (.invokestatic 34, 3) := by decide +kernel
theorem dX3_widens_11 : decode cX3_widens 11 = .ok (.ifCond .ne 5, 3) := by decide +kernel
theorem dX3_widens_14 : decode cX3_widens 14 = .ok (.iconst 0, 1) := by decide +kernel
theorem dX3_widens_15 : decode cX3_widens 15 = .ok (.ireturn, 1) := by decide +kernel
theorem dX3_widens_16 : decode cX3_widens 16 = .ok (.iload_n 0, 1) := by decide +kernel
theorem dX3_widens_17 : decode cX3_widens 17 = .ok (.iload_n 1, 1) := by decide +kernel
theorem dX3_widens_18 : decode cX3_widens 18 = .ok (.if_icmp .ne 5, 3) := by decide +kernel
theorem dX3_widens_21 : decode cX3_widens 21 = .ok (.iconst 1, 1) := by decide +kernel
theorem dX3_widens_22 : decode cX3_widens 22 = .ok (.ireturn, 1) := by decide +kernel
theorem dX3_widens_23 : decode cX3_widens 23 = .ok (.iload_n 0, 1) := by decide +kernel
theorem dX3_widens_24 : decode cX3_widens 24 = .ok (.iconst 1, 1) := by decide +kernel
theorem dX3_widens_25 : decode cX3_widens 25 = .ok (.if_icmp .eq 13, 3) := by decide +kernel
theorem dX3_widens_28 : decode cX3_widens 28 = .ok (.iload_n 1, 1) := by decide +kernel
theorem dX3_widens_29 : decode cX3_widens 29 = .ok (.iconst 1, 1) := by decide +kernel
theorem dX3_widens_30 : decode cX3_widens 30 = .ok (.if_icmp .eq 8, 3) := by decide +kernel
theorem dX3_widens_33 : decode cX3_widens 33 = .ok (.iload_n 1, 1) := by decide +kernel
theorem dX3_widens_34 : decode cX3_widens 34 = .ok (.iconst 3, 1) := by decide +kernel
theorem dX3_widens_35 : decode cX3_widens 35 = .ok (.if_icmp .ne 5, 3) := by decide +kernel
theorem dX3_widens_38 : decode cX3_widens 38 = .ok (.iconst 0, 1) := by decide +kernel
theorem dX3_widens_39 : decode cX3_widens 39 = .ok (.ireturn, 1) := by decide +kernel
theorem dX3_widens_40 : decode cX3_widens 40 = .ok (.iload_n 0, 1) := by decide +kernel
theorem dX3_widens_41 : decode cX3_widens 41 = .ok (.iconst 3, 1) := by decide +kernel
theorem dX3_widens_42 : decode cX3_widens 42 = .ok (.if_icmp .ne 16, 3) := by decide +kernel
theorem dX3_widens_45 : decode cX3_widens 45 = .ok (.iload_n 1, 1) := by decide +kernel
theorem dX3_widens_46 : decode cX3_widens 46 = .ok (.iconst 5, 1) := by decide +kernel
theorem dX3_widens_47 : decode cX3_widens 47 = .ok (.if_icmp .lt 7, 3) := by decide +kernel
theorem dX3_widens_50 : decode cX3_widens 50 = .ok (.iconst 1, 1) := by decide +kernel
theorem dX3_widens_51 : decode cX3_widens 51 = .ok (.goto 17, 3) := by decide +kernel
theorem dX3_widens_54 : decode cX3_widens 54 = .ok (.iconst 0, 1) := by decide +kernel
theorem dX3_widens_55 : decode cX3_widens 55 = .ok (.goto 13, 3) := by decide +kernel
theorem dX3_widens_58 : decode cX3_widens 58 = .ok (.iload_n 0, 1) := by decide +kernel
theorem dX3_widens_59 : decode cX3_widens 59 = .ok (.iload_n 1, 1) := by decide +kernel
theorem dX3_widens_60 : decode cX3_widens 60 = .ok (.if_icmp .ge 7, 3) := by decide +kernel
theorem dX3_widens_63 : decode cX3_widens 63 = .ok (.iconst 1, 1) := by decide +kernel
theorem dX3_widens_64 : decode cX3_widens 64 = .ok (.goto 4, 3) := by decide +kernel
theorem dX3_widens_67 : decode cX3_widens 67 = .ok (.iconst 0, 1) := by decide +kernel
theorem dX3_widens_68 : decode cX3_widens 68 = .ok (.ireturn, 1) := by decide +kernel
theorem dX3_note_0 : decode cX3_note 0 = .ok (.aload_n 0, 1) := by decide +kernel
theorem dX3_note_1 : decode cX3_note 1 = .ok (.iload_n 1, 1) := by decide +kernel
theorem dX3_note_2 : decode cX3_note 2 = .ok (.putfield 38, 3) := by decide +kernel
theorem dX3_note_5 : decode cX3_note 5 = .ok (.aload_n 0, 1) := by decide +kernel
theorem dX3_note_6 : decode cX3_note 6 = .ok (.getfield 24, 3) := by decide +kernel
theorem dX3_note_9 : decode cX3_note 9 = .ok (.iload_n 1, 1) := by decide +kernel
theorem dX3_note_10 : decode cX3_note 10 = .ok (.dup2, 1) := by decide +kernel
theorem dX3_note_11 : decode cX3_note 11 = .ok (.iaload, 1) := by decide +kernel
theorem dX3_note_12 : decode cX3_note 12 = .ok (.iconst 1, 1) := by decide +kernel
theorem dX3_note_13 : decode cX3_note 13 = .ok (.iadd, 1) := by decide +kernel
theorem dX3_note_14 : decode cX3_note 14 = .ok (.iastore, 1) := by decide +kernel
theorem dX3_note_15 : decode cX3_note 15 = .ok (.iload_n 1, 1) := by decide +kernel
theorem dX3_note_16 : decode cX3_note 16 = .ok (.ifCond .ne 7, 3) := by decide +kernel
theorem dX3_note_19 : decode cX3_note 19 = .ok (.iconst 1, 1) := by decide +kernel
theorem dX3_note_20 : decode cX3_note 20 = .ok (.goto 4, 3) := by decide +kernel
theorem dX3_note_23 : decode cX3_note 23 = .ok (.iconst 0, 1) := by decide +kernel
theorem dX3_note_24 : decode cX3_note 24 = .ok (.ireturn, 1) := by decide +kernel
theorem dX3_codeOf_0 : decode cX3_codeOf 0 = .ok (.aload_n 0, 1) := by decide +kernel
theorem dX3_codeOf_1 : decode cX3_codeOf 1 = .ok (.getfield 9, 3) := by decide +kernel
theorem dX3_codeOf_4 : decode cX3_codeOf 4 = .ok (.iload_n 1, 1) := by decide +kernel
theorem dX3_codeOf_5 : decode cX3_codeOf 5 = .ok (.iaload, 1) := by decide +kernel
theorem dX3_codeOf_6 : decode cX3_codeOf 6 = .ok (.ifCond .ne 7, 3) := by decide +kernel
theorem dX3_codeOf_9 : decode cX3_codeOf 9 = .ok (.iconst 1, 1) := by decide +kernel
theorem dX3_codeOf_10 : decode cX3_codeOf 10 = .ok (.goto 19, 3) := by decide +kernel
theorem dX3_codeOf_13 : decode cX3_codeOf 13 = .ok (.aload_n 0, 1) := by decide +kernel
theorem dX3_codeOf_14 : decode cX3_codeOf 14 = .ok (.getfield 9, 3) := by decide +kernel
theorem dX3_codeOf_17 : decode cX3_codeOf 17 = .ok (.iload_n 1, 1) := by decide +kernel
theorem dX3_codeOf_18 : decode cX3_codeOf 18 = .ok (.iaload, 1) := by decide +kernel
theorem dX3_codeOf_19 : decode cX3_codeOf 19 = .ok (.bipush 9, 2) := by decide +kernel
theorem dX3_codeOf_21 : decode cX3_codeOf 21 = .ok (.if_icmp .ne 7, 3) := by decide +kernel
theorem dX3_codeOf_24 : decode cX3_codeOf 24 = .ok (.iconst 2, 1) := by decide +kernel
theorem dX3_codeOf_25 : decode cX3_codeOf 25 = .ok (.goto 4, 3) := by decide +kernel
theorem dX3_codeOf_28 : decode cX3_codeOf 28 = .ok (.iconst 0, 1) := by decide +kernel
theorem dX3_codeOf_29 : decode cX3_codeOf 29 = .ok (.ireturn, 1) := by decide +kernel
set_option maxRecDepth 20000 in
theorem ggX3_codeOf__X3_codeOf : GoodIn wsX3_codeOf_ wsX3_codeOf := goodIn_r _ [6, 7, 8, 9, 10, 11, 12, 13, 14, 15] (by decide +kernel) (by decide +kernel)
set_option maxRecDepth 20000 in
theorem gX3_codeOf__X3_codeOf : GoodIn wsX3_codeOf_ (wsV RX3 41 RX3 yX3_codeOf wsX3_codeOf) := goodIn_app (goodIn_of _ (by decide +kernel)) ggX3_codeOf__X3_codeOf
theorem dX3_codeOf__0 : decode cX3_codeOf_ 0 = .ok (.aload_n 0, 1) := by decide +kernel
theorem dX3_codeOf__1 : decode cX3_codeOf_ 1 = .ok (.iload_n 1, 1) := by decide +kernel
theorem dX3_codeOf__2 : decode cX3_codeOf_ 2 = .ok (.invokevirtual 41, 3) := by decide +kernel
theorem dX3_codeOf__5 : decode cX3_codeOf_ 5 = .ok (.ifCond .eq 11, 3) := by decide +kernel
theorem dX3_codeOf__8 : decode cX3_codeOf_ 8 = .ok (.aload_n 0, 1) := by decide +kernel
theorem dX3_codeOf__9 : decode cX3_codeOf_ 9 = .ok (.iload_n 1, 1) := by decide +kernel
theorem dX3_codeOf__10 : decode cX3_codeOf_ 10 = .ok (.invokevirtual 41, 3) := by decide +kernel
theorem dX3_codeOf__13 : decode cX3_codeOf_ 13 = .ok (.goto 22, 3) := by decide +kernel
theorem dX3_codeOf__16 : decode cX3_codeOf_ 16 = .ok (.iload_n 2, 1) := by decide +kernel
theorem dX3_codeOf__17 : decode cX3_codeOf_ 17 = .ok (.ifCond .lt 13, 3) := by decide +kernel
theorem dX3_codeOf__20 : decode cX3_codeOf_ 20 = .ok (.iload_n 2, 1) := by decide +kernel
theorem dX3_codeOf__21 : decode cX3_codeOf_ 21 = .ok (.aload_n 0, 1) := by decide +kernel
theorem dX3_codeOf__22 : decode cX3_codeOf_ 22 = .ok (.getfield 13, 3) := by decide +kernel
theorem dX3_codeOf__25 : decode cX3_codeOf_ 25 = .ok (.iload_n 1, 1) := by decide +kernel
theorem dX3_codeOf__26 : decode cX3_codeOf_ 26 = .ok (.iaload, 1) := by decide +kernel
theorem dX3_codeOf__27 : decode cX3_codeOf_ 27 = .ok (.if_icmp .lt 7, 3) := by decide +kernel
theorem dX3_codeOf__30 : decode cX3_codeOf_ 30 = .ok (.iconst 3, 1) := by decide +kernel
theorem dX3_codeOf__31 : decode cX3_codeOf_ 31 = .ok (.goto 4, 3) := by decide +kernel
theorem dX3_codeOf__34 : decode cX3_codeOf_ 34 = .ok (.iconst 0, 1) := by decide +kernel
theorem dX3_codeOf__35 : decode cX3_codeOf_ 35 = .ok (.ireturn, 1) := by decide +kernel
theorem dX3_at_0 : decode cX3_at 0 = .ok (.bipush 40, 2) := by decide +kernel
theorem dX3_at_2 : decode cX3_at 2 = .ok (.iload_n 0, 1) := by decide +kernel
theorem dX3_at_3 : decode cX3_at 3 = .ok (.imul, 1) := by decide +kernel
theorem dX3_at_4 : decode cX3_at 4 = .ok (.iload_n 1, 1) := by decide +kernel
theorem dX3_at_5 : decode cX3_at 5 = .ok (.iadd, 1) := by decide +kernel
theorem dX3_at_6 : decode cX3_at 6 = .ok (.ireturn, 1) := by decide +kernel
set_option maxRecDepth 20000 in
theorem ggX3_create_X3_has : GoodIn wsX3_create wsX3_has := goodIn_r _ [10] (by decide +kernel) (by decide +kernel)
set_option maxRecDepth 20000 in
theorem gX3_create_X3_has : GoodIn wsX3_create (va_wsS RX3 34 yX3_has wsX3_has) := goodIn_app (goodIn_of _ (by decide +kernel)) ggX3_create_X3_has
set_option maxRecDepth 20000 in
theorem ggX3_create_X3_fail : GoodIn wsX3_create wsX3_fail := goodIn_r _ [14, 1, 18, 19, 20, 21, 22, 23, 24, 25] (by decide +kernel) (by decide +kernel)
set_option maxRecDepth 20000 in
theorem gX3_create_X3_fail : GoodIn wsX3_create (wsV RX3 45 RX3 yX3_fail wsX3_fail) := goodIn_app (goodIn_of _ (by decide +kernel)) ggX3_create_X3_fail
set_option maxRecDepth 20000 in
theorem ggX3_create_X3_at : GoodIn wsX3_create wsX3_at := goodIn_r _ [17] (by decide +kernel) (by decide +kernel)
set_option maxRecDepth 20000 in
theorem gX3_create_X3_at : GoodIn wsX3_create (va_wsS RX3 48 yX3_at wsX3_at) := goodIn_app (goodIn_of _ (by decide +kernel)) ggX3_create_X3_at
theorem dX3_create_0 : decode cX3_create 0 = .ok (.aload_n 0, 1) := by decide +kernel
theorem dX3_create_1 : decode cX3_create 1 = .ok (.iconst 0, 1) := by decide +kernel
theorem dX3_create_2 : decode cX3_create 2 = .ok (.putfield 27, 3) := by decide +kernel
theorem dX3_create_5 : decode cX3_create 5 = .ok (.iload_n 1, 1) := by decide +kernel
theorem dX3_create_6 : decode cX3_create 6 = .ok (.ifCond .lt 26, 3) := by decide +kernel
theorem dX3_create_9 : decode cX3_create 9 = .ok (.iload_n 1, 1) := by decide +kernel
theorem dX3_create_10 : decode cX3_create 10 = .ok (.bipush 9, 2) := by decide +kernel
theorem dX3_create_12 : decode cX3_create 12 = .ok (.if_icmp .gt 20, 3) := by decide +kernel
theorem dX3_create_15 : decode cX3_create 15 = .ok (.iload_n 1, 1) := by decide +kernel
theorem dX3_create_16 : decode cX3_create 16 = .ok (.invokestatic 34, 3) := by decide +kernel
theorem dX3_create_19 : decode cX3_create 19 = .ok (.ifCond .eq 19, 3) := by decide +kernel
theorem dX3_create_22 : decode cX3_create 22 = .ok (.iload_n 2, 1) := by decide +kernel
theorem dX3_create_23 : decode cX3_create 23 = .ok (.ifCond .lt 9, 3) := by decide +kernel
theorem dX3_create_26 : decode cX3_create 26 = .ok (.iload_n 2, 1) := by decide +kernel
theorem dX3_create_27 : decode cX3_create 27 = .ok (.bipush 40, 2) := by decide +kernel
theorem dX3_create_29 : decode cX3_create 29 = .ok (.if_icmp .le 9, 3) := by decide +kernel
theorem dX3_create_32 : decode cX3_create 32 = .ok (.aload_n 0, 1) := by decide +kernel
theorem dX3_create_33 : decode cX3_create 33 = .ok (.iconst 1, 1) := by decide +kernel
theorem dX3_create_34 : decode cX3_create 34 = .ok (.invokevirtual 45, 3) := by decide +kernel
theorem dX3_create_37 : decode cX3_create 37 = .ok (.ireturn, 1) := by decide +kernel
theorem dX3_create_38 : decode cX3_create 38 = .ok (.aload_n 0, 1) := by decide +kernel
theorem dX3_create_39 : decode cX3_create 39 = .ok (.getfield 31, 3) := by decide +kernel
theorem dX3_create_42 : decode cX3_create 42 = .ok (.bipush 60, 2) := by decide +kernel
theorem dX3_create_44 : decode cX3_create 44 = .ok (.if_icmp .ne 9, 3) := by decide +kernel
theorem dX3_create_47 : decode cX3_create 47 = .ok (.aload_n 0, 1) := by decide +kernel
theorem dX3_create_48 : decode cX3_create 48 = .ok (.iconst 2, 1) := by decide +kernel
theorem dX3_create_49 : decode cX3_create 49 = .ok (.invokevirtual 45, 3) := by decide +kernel
theorem dX3_create_52 : decode cX3_create 52 = .ok (.ireturn, 1) := by decide +kernel
theorem dX3_create_53 : decode cX3_create 53 = .ok (.aload_n 0, 1) := by decide +kernel
theorem dX3_create_54 : decode cX3_create 54 = .ok (.getfield 9, 3) := by decide +kernel
theorem dX3_create_57 : decode cX3_create 57 = .ok (.aload_n 0, 1) := by decide +kernel
theorem dX3_create_58 : decode cX3_create 58 = .ok (.getfield 31, 3) := by decide +kernel
theorem dX3_create_61 : decode cX3_create 61 = .ok (.iload_n 1, 1) := by decide +kernel
theorem dX3_create_62 : decode cX3_create 62 = .ok (.iastore, 1) := by decide +kernel
theorem dX3_create_63 : decode cX3_create 63 = .ok (.aload_n 0, 1) := by decide +kernel
theorem dX3_create_64 : decode cX3_create 64 = .ok (.getfield 13, 3) := by decide +kernel
theorem dX3_create_67 : decode cX3_create 67 = .ok (.aload_n 0, 1) := by decide +kernel
theorem dX3_create_68 : decode cX3_create 68 = .ok (.getfield 31, 3) := by decide +kernel
theorem dX3_create_71 : decode cX3_create 71 = .ok (.iload_n 1, 1) := by decide +kernel
theorem dX3_create_72 : decode cX3_create 72 = .ok (.invokestatic 34, 3) := by decide +kernel
theorem dX3_create_75 : decode cX3_create 75 = .ok (.ifCond .eq 7, 3) := by decide +kernel
theorem dX3_create_78 : decode cX3_create 78 = .ok (.iload_n 2, 1) := by decide +kernel
theorem dX3_create_79 : decode cX3_create 79 = .ok (.goto 4, 3) := by decide +kernel
theorem dX3_create_82 : decode cX3_create 82 = .ok (.iconst 0, 1) := by decide +kernel
theorem dX3_create_83 : decode cX3_create 83 = .ok (.iastore, 1) := by decide +kernel
theorem dX3_create_84 : decode cX3_create 84 = .ok (.iconst 0, 1) := by decide +kernel
theorem dX3_create_85 : decode cX3_create 85 = .ok (.istore_n 3, 1) := by decide +kernel
theorem dX3_create_86 : decode cX3_create 86 = .ok (.iload_n 3, 1) := by decide +kernel
theorem dX3_create_87 : decode cX3_create 87 = .ok (.bipush 40, 2) := by decide +kernel
theorem dX3_create_89 : decode cX3_create 89 = .ok (.if_icmp .ge 37, 3) := by decide +kernel
theorem dX3_create_92 : decode cX3_create 92 = .ok (.aload_n 0, 1) := by decide +kernel
theorem dX3_create_93 : decode cX3_create 93 = .ok (.getfield 16, 3) := by decide +kernel
theorem dX3_create_96 : decode cX3_create 96 = .ok (.aload_n 0, 1) := by decide +kernel
theorem dX3_create_97 : decode cX3_create 97 = .ok (.getfield 31, 3) := by decide +kernel
theorem dX3_create_100 : decode cX3_create 100 = .ok (.iload_n 3, 1) := by decide +kernel
theorem dX3_create_101 : decode cX3_create 101 = .ok (.invokestatic 48, 3) := by decide +kernel
theorem dX3_create_104 : decode cX3_create 104 = .ok (.lconst 0, 1) := by decide +kernel
theorem dX3_create_105 : decode cX3_create 105 = .ok (.lastore, 1) := by decide +kernel
theorem dX3_create_106 : decode cX3_create 106 = .ok (.aload_n 0, 1) := by decide +kernel
theorem dX3_create_107 : decode cX3_create 107 = .ok (.getfield 20, 3) := by decide +kernel
theorem dX3_create_110 : decode cX3_create 110 = .ok (.aload_n 0, 1) := by decide +kernel
theorem dX3_create_111 : decode cX3_create 111 = .ok (.getfield 31, 3) := by decide +kernel
theorem dX3_create_114 : decode cX3_create 114 = .ok (.iload_n 3, 1) := by decide +kernel
theorem dX3_create_115 : decode cX3_create 115 = .ok (.invokestatic 48, 3) := by decide +kernel
theorem dX3_create_118 : decode cX3_create 118 = .ok (.dconst 0, 1) := by decide +kernel
theorem dX3_create_119 : decode cX3_create 119 = .ok (.dastore, 1) := by decide +kernel
theorem dX3_create_120 : decode cX3_create 120 = .ok (.iinc 3 1, 3) := by decide +kernel
theorem dX3_create_123 : decode cX3_create 123 = .ok (.goto (-37), 3) := by decide +kernel
theorem dX3_create_126 : decode cX3_create 126 = .ok (.aload_n 0, 1) := by decide +kernel
theorem dX3_create_127 : decode cX3_create 127 = .ok (.dup, 1) := by decide +kernel
theorem dX3_create_128 : decode cX3_create 128 = .ok (.getfield 31, 3) := by decide +kernel
theorem dX3_create_131 : decode cX3_create 131 = .ok (.iconst 1, 1) := by decide +kernel
theorem dX3_create_132 : decode cX3_create 132 = .ok (.iadd, 1) := by decide +kernel
theorem dX3_create_133 : decode cX3_create 133 = .ok (.putfield 31, 3) := by decide +kernel
theorem dX3_create_136 : decode cX3_create 136 = .ok (.aload_n 0, 1) := by decide +kernel
theorem dX3_create_137 : decode cX3_create 137 = .ok (.getfield 31, 3) := by decide +kernel
theorem dX3_create_140 : decode cX3_create 140 = .ok (.iconst 1, 1) := by decide +kernel
theorem dX3_create_141 : decode cX3_create 141 = .ok (.isub, 1) := by decide +kernel
theorem dX3_create_142 : decode cX3_create 142 = .ok (.ireturn, 1) := by decide +kernel
theorem dX3_columnCount_0 : decode cX3_columnCount 0 = .ok (.aload_n 0, 1) := by decide +kernel
theorem dX3_columnCount_1 : decode cX3_columnCount 1 = .ok (.iconst 0, 1) := by decide +kernel
theorem dX3_columnCount_2 : decode cX3_columnCount 2 = .ok (.putfield 27, 3) := by decide +kernel
theorem dX3_columnCount_5 : decode cX3_columnCount 5 = .ok (.aload_n 0, 1) := by decide +kernel
theorem dX3_columnCount_6 : decode cX3_columnCount 6 = .ok (.getfield 31, 3) := by decide +kernel
theorem dX3_columnCount_9 : decode cX3_columnCount 9 = .ok (.ireturn, 1) := by decide +kernel
set_option maxRecDepth 20000 in
theorem ggX3_kind_X3_isColumn : GoodIn wsX3_kind wsX3_isColumn := goodIn_r _ [7, 8, 13, 14, 15, 16, 17, 18, 19, 20] (by decide +kernel) (by decide +kernel)
set_option maxRecDepth 20000 in
theorem gX3_kind_X3_isColumn : GoodIn wsX3_kind (wsV RX3 52 RX3 yX3_isColumn wsX3_isColumn) := goodIn_app (goodIn_of _ (by decide +kernel)) ggX3_kind_X3_isColumn
set_option maxRecDepth 20000 in
theorem ggX3_kind_X3_fail : GoodIn wsX3_kind wsX3_fail := goodIn_r _ [12, 1, 13, 14, 15, 16, 17, 18, 19, 20] (by decide +kernel) (by decide +kernel)
set_option maxRecDepth 20000 in
theorem gX3_kind_X3_fail : GoodIn wsX3_kind (wsV RX3 45 RX3 yX3_fail wsX3_fail) := goodIn_app (goodIn_of _ (by decide +kernel)) ggX3_kind_X3_fail
theorem dX3_kind_0 : decode cX3_kind 0 = .ok (.aload_n 0, 1) := by decide +kernel
theorem dX3_kind_1 : decode cX3_kind 1 = .ok (.iconst 0, 1) := by decide +kernel
theorem dX3_kind_2 : decode cX3_kind 2 = .ok (.putfield 27, 3) := by decide +kernel
theorem dX3_kind_5 : decode cX3_kind 5 = .ok (.aload_n 0, 1) := by decide +kernel
theorem dX3_kind_6 : decode cX3_kind 6 = .ok (.iload_n 1, 1) := by decide +kernel
theorem dX3_kind_7 : decode cX3_kind 7 = .ok (.invokevirtual 52, 3) := by decide +kernel
theorem dX3_kind_10 : decode cX3_kind 10 = .ok (.ifCond .eq 12, 3) := by decide +kernel
theorem dX3_kind_13 : decode cX3_kind 13 = .ok (.aload_n 0, 1) := by decide +kernel
theorem dX3_kind_14 : decode cX3_kind 14 = .ok (.getfield 9, 3) := by decide +kernel
theorem dX3_kind_17 : decode cX3_kind 17 = .ok (.iload_n 1, 1) := by decide +kernel
theorem dX3_kind_18 : decode cX3_kind 18 = .ok (.iaload, 1) := by decide +kernel
theorem dX3_kind_19 : decode cX3_kind 19 = .ok (.goto 8, 3) := by decide +kernel
theorem dX3_kind_22 : decode cX3_kind 22 = .ok (.aload_n 0, 1) := by decide +kernel
theorem dX3_kind_23 : decode cX3_kind 23 = .ok (.iconst 1, 1) := by decide +kernel
theorem dX3_kind_24 : decode cX3_kind 24 = .ok (.invokevirtual 45, 3) := by decide +kernel
theorem dX3_kind_27 : decode cX3_kind 27 = .ok (.ireturn, 1) := by decide +kernel
set_option maxRecDepth 20000 in
theorem ggX3_length_X3_isColumn : GoodIn wsX3_length wsX3_isColumn := goodIn_r _ [7, 8, 24, 25, 26, 27, 28, 29, 30, 31] (by decide +kernel) (by decide +kernel)
set_option maxRecDepth 20000 in
theorem gX3_length_X3_isColumn : GoodIn wsX3_length (wsV RX3 52 RX3 yX3_isColumn wsX3_isColumn) := goodIn_app (goodIn_of _ (by decide +kernel)) ggX3_length_X3_isColumn
set_option maxRecDepth 20000 in
theorem ggX3_length_X3_fail : GoodIn wsX3_length wsX3_fail := goodIn_r _ [12, 1, 24, 25, 26, 27, 28, 29, 30, 31] (by decide +kernel) (by decide +kernel)
set_option maxRecDepth 20000 in
theorem gX3_length_X3_fail : GoodIn wsX3_length (wsV RX3 45 RX3 yX3_fail wsX3_fail) := goodIn_app (goodIn_of _ (by decide +kernel)) ggX3_length_X3_fail
set_option maxRecDepth 20000 in
theorem ggX3_length_X3_codeOf : GoodIn wsX3_length wsX3_codeOf := goodIn_r _ [16, 17, 24, 25, 26, 27, 28, 29, 30, 31] (by decide +kernel) (by decide +kernel)
set_option maxRecDepth 20000 in
theorem gX3_length_X3_codeOf : GoodIn wsX3_length (wsV RX3 41 RX3 yX3_codeOf wsX3_codeOf) := goodIn_app (goodIn_of _ (by decide +kernel)) ggX3_length_X3_codeOf
set_option maxRecDepth 20000 in
theorem ggX3_length_X3_note : GoodIn wsX3_length wsX3_note := goodIn_r _ [21, 22, 23, 24, 25, 26, 27, 28, 29, 30, 31] (by decide +kernel) (by decide +kernel)
set_option maxRecDepth 20000 in
theorem gX3_length_X3_note : GoodIn wsX3_length (wsV RX3 55 RX3 yX3_note wsX3_note) := goodIn_app (goodIn_of _ (by decide +kernel)) ggX3_length_X3_note
theorem dX3_length_0 : decode cX3_length 0 = .ok (.aload_n 0, 1) := by decide +kernel
theorem dX3_length_1 : decode cX3_length 1 = .ok (.iconst 0, 1) := by decide +kernel
theorem dX3_length_2 : decode cX3_length 2 = .ok (.putfield 27, 3) := by decide +kernel
theorem dX3_length_5 : decode cX3_length 5 = .ok (.aload_n 0, 1) := by decide +kernel
theorem dX3_length_6 : decode cX3_length 6 = .ok (.iload_n 1, 1) := by decide +kernel
theorem dX3_length_7 : decode cX3_length 7 = .ok (.invokevirtual 52, 3) := by decide +kernel
theorem dX3_length_10 : decode cX3_length 10 = .ok (.ifCond .ne 9, 3) := by decide +kernel
theorem dX3_length_13 : decode cX3_length 13 = .ok (.aload_n 0, 1) := by decide +kernel
theorem dX3_length_14 : decode cX3_length 14 = .ok (.iconst 1, 1) := by decide +kernel
theorem dX3_length_15 : decode cX3_length 15 = .ok (.invokevirtual 45, 3) := by decide +kernel
theorem dX3_length_18 : decode cX3_length 18 = .ok (.ireturn, 1) := by decide +kernel
theorem dX3_length_19 : decode cX3_length 19 = .ok (.aload_n 0, 1) := by decide +kernel
theorem dX3_length_20 : decode cX3_length 20 = .ok (.aload_n 0, 1) := by decide +kernel
theorem dX3_length_21 : decode cX3_length 21 = .ok (.iload_n 1, 1) := by decide +kernel
theorem dX3_length_22 : decode cX3_length 22 = .ok (.invokevirtual 41, 3) := by decide +kernel
theorem dX3_length_25 : decode cX3_length 25 = .ok (.invokevirtual 55, 3) := by decide +kernel
theorem dX3_length_28 : decode cX3_length 28 = .ok (.ifCond .eq 12, 3) := by decide +kernel
theorem dX3_length_31 : decode cX3_length 31 = .ok (.aload_n 0, 1) := by decide +kernel
theorem dX3_length_32 : decode cX3_length 32 = .ok (.getfield 13, 3) := by decide +kernel
theorem dX3_length_35 : decode cX3_length 35 = .ok (.iload_n 1, 1) := by decide +kernel
theorem dX3_length_36 : decode cX3_length 36 = .ok (.iaload, 1) := by decide +kernel
theorem dX3_length_37 : decode cX3_length 37 = .ok (.goto 4, 3) := by decide +kernel
theorem dX3_length_40 : decode cX3_length 40 = .ok (.iconst (-1), 1) := by decide +kernel
theorem dX3_length_41 : decode cX3_length 41 = .ok (.ireturn, 1) := by decide +kernel
set_option maxRecDepth 20000 in
theorem ggX3_reads_X3_isColumn : GoodIn wsX3_reads wsX3_isColumn := goodIn_r _ [7, 8, 30, 31, 32, 33, 34, 35, 36, 37] (by decide +kernel) (by decide +kernel)
set_option maxRecDepth 20000 in
theorem gX3_reads_X3_isColumn : GoodIn wsX3_reads (wsV RX3 52 RX3 yX3_isColumn wsX3_isColumn) := goodIn_app (goodIn_of _ (by decide +kernel)) ggX3_reads_X3_isColumn
set_option maxRecDepth 20000 in
theorem ggX3_reads_X3_codeOf_ : GoodIn wsX3_reads wsX3_codeOf_ := goodIn_r _ [12, 13, 14, 15, 16, 6, 17, 2, 30, 31, 32, 33, 34, 35, 36, 37] (by decide +kernel) (by decide +kernel)
set_option maxRecDepth 20000 in
theorem gX3_reads_X3_codeOf_ : GoodIn wsX3_reads (wsV RX3 58 RX3 yX3_codeOf_ wsX3_codeOf_) := goodIn_app (goodIn_of _ (by decide +kernel)) ggX3_reads_X3_codeOf_
set_option maxRecDepth 20000 in
theorem ggX3_reads_X3_widens : GoodIn wsX3_reads wsX3_widens := goodIn_r _ [20, 21, 22, 6, 23] (by decide +kernel) (by decide +kernel)
set_option maxRecDepth 20000 in
theorem gX3_reads_X3_widens : GoodIn wsX3_reads (va_wsS RX3 60 yX3_widens wsX3_widens) := goodIn_app (goodIn_of _ (by decide +kernel)) ggX3_reads_X3_widens
set_option maxRecDepth 20000 in
theorem ggX3_reads_X3_note : GoodIn wsX3_reads wsX3_note := goodIn_r _ [27, 28, 29, 30, 31, 32, 33, 34, 35, 36, 37] (by decide +kernel) (by decide +kernel)
set_option maxRecDepth 20000 in
theorem gX3_reads_X3_note : GoodIn wsX3_reads (wsV RX3 55 RX3 yX3_note wsX3_note) := goodIn_app (goodIn_of _ (by decide +kernel)) ggX3_reads_X3_note
theorem dX3_reads_0 : decode cX3_reads 0 = .ok (.aload_n 0, 1) := by decide +kernel
theorem dX3_reads_1 : decode cX3_reads 1 = .ok (.aload_n 0, 1) := by decide +kernel
theorem dX3_reads_2 : decode cX3_reads 2 = .ok (.iload_n 1, 1) := by decide +kernel
theorem dX3_reads_3 : decode cX3_reads 3 = .ok (.invokevirtual 52, 3) := by decide +kernel
theorem dX3_reads_6 : decode cX3_reads 6 = .ok (.ifCond .eq 7, 3) := by decide +kernel
theorem dX3_reads_9 : decode cX3_reads 9 = .ok (.iconst 0, 1) := by decide +kernel
theorem dX3_reads_10 : decode cX3_reads 10 = .ok (.goto 4, 3) := by decide +kernel
theorem dX3_reads_13 : decode cX3_reads 13 = .ok (.iconst 1, 1) := by decide +kernel
theorem dX3_reads_14 : decode cX3_reads 14 = .ok (.putfield 27, 3) := by decide +kernel
theorem dX3_reads_17 : decode cX3_reads 17 = .ok (.aload_n 0, 1) := by decide +kernel
theorem dX3_reads_18 : decode cX3_reads 18 = .ok (.getfield 27, 3) := by decide +kernel
theorem dX3_reads_21 : decode cX3_reads 21 = .ok (.ifCond .eq 5, 3) := by decide +kernel
theorem dX3_reads_24 : decode cX3_reads 24 = .ok (.iconst 0, 1) := by decide +kernel
theorem dX3_reads_25 : decode cX3_reads 25 = .ok (.ireturn, 1) := by decide +kernel
theorem dX3_reads_26 : decode cX3_reads 26 = .ok (.aload_n 0, 1) := by decide +kernel
theorem dX3_reads_27 : decode cX3_reads 27 = .ok (.iload_n 1, 1) := by decide +kernel
theorem dX3_reads_28 : decode cX3_reads 28 = .ok (.iload_n 2, 1) := by decide +kernel
theorem dX3_reads_29 : decode cX3_reads 29 = .ok (.invokevirtual 58, 3) := by decide +kernel
theorem dX3_reads_32 : decode cX3_reads 32 = .ok (.istore 4, 2) := by decide +kernel
theorem dX3_reads_34 : decode cX3_reads 34 = .ok (.aload_n 0, 1) := by decide +kernel
theorem dX3_reads_35 : decode cX3_reads 35 = .ok (.iload 4, 2) := by decide +kernel
theorem dX3_reads_37 : decode cX3_reads 37 = .ok (.ifCond .ne 20, 3) := by decide +kernel
theorem dX3_reads_40 : decode cX3_reads 40 = .ok (.aload_n 0, 1) := by decide +kernel
theorem dX3_reads_41 : decode cX3_reads 41 = .ok (.getfield 9, 3) := by decide +kernel
theorem dX3_reads_44 : decode cX3_reads 44 = .ok (.iload_n 1, 1) := by decide +kernel
theorem dX3_reads_45 : decode cX3_reads 45 = .ok (.iaload, 1) := by decide +kernel
theorem dX3_reads_46 : decode cX3_reads 46 = .ok (.iload_n 3, 1) := by decide +kernel
theorem dX3_reads_47 : decode cX3_reads 47 = .ok (.invokestatic 60, 3) := by decide +kernel
theorem dX3_reads_50 : decode cX3_reads 50 = .ok (.ifCond .ne 7, 3) := by decide +kernel
theorem dX3_reads_53 : decode cX3_reads 53 = .ok (.iconst 4, 1) := by decide +kernel
theorem dX3_reads_54 : decode cX3_reads 54 = .ok (.goto 5, 3) := by decide +kernel
theorem dX3_reads_57 : decode cX3_reads 57 = .ok (.iload 4, 2) := by decide +kernel
theorem dX3_reads_59 : decode cX3_reads 59 = .ok (.invokevirtual 55, 3) := by decide +kernel
theorem dX3_reads_62 : decode cX3_reads 62 = .ok (.ireturn, 1) := by decide +kernel
set_option maxRecDepth 20000 in
theorem ggX3_readBoolean_X3_reads : GoodIn wsX3_readBoolean wsX3_reads := goodIn_r _ [6, 7, 8, 9, 10, 11, 5, 12, 13, 14, 15, 16, 17, 18, 19, 20, 21, 22, 23, 24, 25, 26, 27, 28, 29, 30, 31, 32, 33, 34, 38, 39, 40, 41, 42, 43, 44, 45] (by decide +kernel) (by decide +kernel)
set_option maxRecDepth 20000 in
theorem gX3_readBoolean_X3_reads : GoodIn wsX3_readBoolean (wsV RX3 64 RX3 yX3_reads wsX3_reads) := goodIn_app (goodIn_of _ (by decide +kernel)) ggX3_readBoolean_X3_reads
set_option maxRecDepth 20000 in
theorem ggX3_readBoolean_X3_at : GoodIn wsX3_readBoolean wsX3_at := goodIn_r _ [37] (by decide +kernel) (by decide +kernel)
set_option maxRecDepth 20000 in
theorem gX3_readBoolean_X3_at : GoodIn wsX3_readBoolean (va_wsS RX3 48 yX3_at wsX3_at) := goodIn_app (goodIn_of _ (by decide +kernel)) ggX3_readBoolean_X3_at
theorem dX3_readBoolean_0 : decode cX3_readBoolean 0 = .ok (.aload_n 0, 1) := by decide +kernel
theorem dX3_readBoolean_1 : decode cX3_readBoolean 1 = .ok (.iload_n 1, 1) := by decide +kernel
theorem dX3_readBoolean_2 : decode cX3_readBoolean 2 = .ok (.iload_n 2, 1) := by decide +kernel
theorem dX3_readBoolean_3 : decode cX3_readBoolean 3 = .ok (.iconst 1, 1) := by decide +kernel
theorem dX3_readBoolean_4 : decode cX3_readBoolean 4 = .ok (.invokevirtual 64, 3) := by decide +kernel
theorem dX3_readBoolean_7 : decode cX3_readBoolean 7 = .ok (.ifCond .eq 22, 3) := by decide +kernel
theorem dX3_readBoolean_10 : decode cX3_readBoolean 10 = .ok (.aload_n 0, 1) := by decide +kernel
theorem dX3_readBoolean_11 : decode cX3_readBoolean 11 = .ok (.getfield 16, 3) := by decide +kernel
theorem dX3_readBoolean_14 : decode cX3_readBoolean 14 = .ok (.iload_n 1, 1) := by decide +kernel
theorem dX3_readBoolean_15 : decode cX3_readBoolean 15 = .ok (.iload_n 2, 1) := by decide +kernel
theorem dX3_readBoolean_16 : decode cX3_readBoolean 16 = .ok (.invokestatic 48, 3) := by decide +kernel
theorem dX3_readBoolean_19 : decode cX3_readBoolean 19 = .ok (.laload, 1) := by decide +kernel
theorem dX3_readBoolean_20 : decode cX3_readBoolean 20 = .ok (.lconst 1, 1) := by decide +kernel
theorem dX3_readBoolean_21 : decode cX3_readBoolean 21 = .ok (.lcmp, 1) := by decide +kernel
theorem dX3_readBoolean_22 : decode cX3_readBoolean 22 = .ok (.ifCond .ne 7, 3) := by decide +kernel
theorem dX3_readBoolean_25 : decode cX3_readBoolean 25 = .ok (.iconst 1, 1) := by decide +kernel
theorem dX3_readBoolean_26 : decode cX3_readBoolean 26 = .ok (.goto 4, 3) := by decide +kernel
theorem dX3_readBoolean_29 : decode cX3_readBoolean 29 = .ok (.iconst 0, 1) := by decide +kernel
theorem dX3_readBoolean_30 : decode cX3_readBoolean 30 = .ok (.ireturn, 1) := by decide +kernel
set_option maxRecDepth 20000 in
theorem ggX3_readByte_X3_reads : GoodIn wsX3_readByte wsX3_reads := goodIn_r _ [6, 7, 8, 9, 10, 11, 5, 12, 13, 14, 15, 16, 17, 18, 19, 20, 21, 22, 23, 24, 25, 26, 27, 28, 29, 30, 31, 32, 33, 34, 38, 39, 40, 41, 42, 43, 44, 45] (by decide +kernel) (by decide +kernel)
set_option maxRecDepth 20000 in
theorem gX3_readByte_X3_reads : GoodIn wsX3_readByte (wsV RX3 64 RX3 yX3_reads wsX3_reads) := goodIn_app (goodIn_of _ (by decide +kernel)) ggX3_readByte_X3_reads
set_option maxRecDepth 20000 in
theorem ggX3_readByte_X3_at : GoodIn wsX3_readByte wsX3_at := goodIn_r _ [37] (by decide +kernel) (by decide +kernel)
set_option maxRecDepth 20000 in
theorem gX3_readByte_X3_at : GoodIn wsX3_readByte (va_wsS RX3 48 yX3_at wsX3_at) := goodIn_app (goodIn_of _ (by decide +kernel)) ggX3_readByte_X3_at
theorem dX3_readByte_0 : decode cX3_readByte 0 = .ok (.aload_n 0, 1) := by decide +kernel
theorem dX3_readByte_1 : decode cX3_readByte 1 = .ok (.iload_n 1, 1) := by decide +kernel
theorem dX3_readByte_2 : decode cX3_readByte 2 = .ok (.iload_n 2, 1) := by decide +kernel
theorem dX3_readByte_3 : decode cX3_readByte 3 = .ok (.iconst 2, 1) := by decide +kernel
theorem dX3_readByte_4 : decode cX3_readByte 4 = .ok (.invokevirtual 64, 3) := by decide +kernel
theorem dX3_readByte_7 : decode cX3_readByte 7 = .ok (.ifCond .eq 17, 3) := by decide +kernel
theorem dX3_readByte_10 : decode cX3_readByte 10 = .ok (.aload_n 0, 1) := by decide +kernel
theorem dX3_readByte_11 : decode cX3_readByte 11 = .ok (.getfield 16, 3) := by decide +kernel
theorem dX3_readByte_14 : decode cX3_readByte 14 = .ok (.iload_n 1, 1) := by decide +kernel
theorem dX3_readByte_15 : decode cX3_readByte 15 = .ok (.iload_n 2, 1) := by decide +kernel
theorem dX3_readByte_16 : decode cX3_readByte 16 = .ok (.invokestatic 48, 3) := by decide +kernel
theorem dX3_readByte_19 : decode cX3_readByte 19 = .ok (.laload, 1) := by decide +kernel
theorem dX3_readByte_20 : decode cX3_readByte 20 = .ok (.l2i, 1) := by decide +kernel
theorem dX3_readByte_21 : decode cX3_readByte 21 = .ok (.goto 4, 3) := by decide +kernel
theorem dX3_readByte_24 : decode cX3_readByte 24 = .ok (.iconst 0, 1) := by decide +kernel
theorem dX3_readByte_25 : decode cX3_readByte 25 = .ok (.ireturn, 1) := by decide +kernel
set_option maxRecDepth 20000 in
theorem ggX3_readChar_X3_reads : GoodIn wsX3_readChar wsX3_reads := goodIn_r _ [6, 7, 8, 9, 10, 11, 5, 12, 13, 14, 15, 16, 17, 18, 19, 20, 21, 22, 23, 24, 25, 26, 27, 28, 29, 30, 31, 32, 33, 34, 38, 39, 40, 41, 42, 43, 44, 45] (by decide +kernel) (by decide +kernel)
set_option maxRecDepth 20000 in
theorem gX3_readChar_X3_reads : GoodIn wsX3_readChar (wsV RX3 64 RX3 yX3_reads wsX3_reads) := goodIn_app (goodIn_of _ (by decide +kernel)) ggX3_readChar_X3_reads
set_option maxRecDepth 20000 in
theorem ggX3_readChar_X3_at : GoodIn wsX3_readChar wsX3_at := goodIn_r _ [37] (by decide +kernel) (by decide +kernel)
set_option maxRecDepth 20000 in
theorem gX3_readChar_X3_at : GoodIn wsX3_readChar (va_wsS RX3 48 yX3_at wsX3_at) := goodIn_app (goodIn_of _ (by decide +kernel)) ggX3_readChar_X3_at
theorem dX3_readChar_0 : decode cX3_readChar 0 = .ok (.aload_n 0, 1) := by decide +kernel
theorem dX3_readChar_1 : decode cX3_readChar 1 = .ok (.iload_n 1, 1) := by decide +kernel
theorem dX3_readChar_2 : decode cX3_readChar 2 = .ok (.iload_n 2, 1) := by decide +kernel
theorem dX3_readChar_3 : decode cX3_readChar 3 = .ok (.iconst 3, 1) := by decide +kernel
theorem dX3_readChar_4 : decode cX3_readChar 4 = .ok (.invokevirtual 64, 3) := by decide +kernel
theorem dX3_readChar_7 : decode cX3_readChar 7 = .ok (.ifCond .eq 17, 3) := by decide +kernel
theorem dX3_readChar_10 : decode cX3_readChar 10 = .ok (.aload_n 0, 1) := by decide +kernel
theorem dX3_readChar_11 : decode cX3_readChar 11 = .ok (.getfield 16, 3) := by decide +kernel
theorem dX3_readChar_14 : decode cX3_readChar 14 = .ok (.iload_n 1, 1) := by decide +kernel
theorem dX3_readChar_15 : decode cX3_readChar 15 = .ok (.iload_n 2, 1) := by decide +kernel
theorem dX3_readChar_16 : decode cX3_readChar 16 = .ok (.invokestatic 48, 3) := by decide +kernel
theorem dX3_readChar_19 : decode cX3_readChar 19 = .ok (.laload, 1) := by decide +kernel
theorem dX3_readChar_20 : decode cX3_readChar 20 = .ok (.l2i, 1) := by decide +kernel
theorem dX3_readChar_21 : decode cX3_readChar 21 = .ok (.goto 4, 3) := by decide +kernel
theorem dX3_readChar_24 : decode cX3_readChar 24 = .ok (.iconst 0, 1) := by decide +kernel
theorem dX3_readChar_25 : decode cX3_readChar 25 = .ok (.ireturn, 1) := by decide +kernel
set_option maxRecDepth 20000 in
theorem ggX3_readShort_X3_reads : GoodIn wsX3_readShort wsX3_reads := goodIn_r _ [6, 7, 8, 9, 10, 11, 5, 12, 13, 14, 15, 16, 17, 18, 19, 20, 21, 22, 23, 24, 25, 26, 27, 28, 29, 30, 31, 32, 33, 34, 38, 39, 40, 41, 42, 43, 44, 45] (by decide +kernel) (by decide +kernel)
set_option maxRecDepth 20000 in
theorem gX3_readShort_X3_reads : GoodIn wsX3_readShort (wsV RX3 64 RX3 yX3_reads wsX3_reads) := goodIn_app (goodIn_of _ (by decide +kernel)) ggX3_readShort_X3_reads
set_option maxRecDepth 20000 in
theorem ggX3_readShort_X3_at : GoodIn wsX3_readShort wsX3_at := goodIn_r _ [37] (by decide +kernel) (by decide +kernel)
set_option maxRecDepth 20000 in
theorem gX3_readShort_X3_at : GoodIn wsX3_readShort (va_wsS RX3 48 yX3_at wsX3_at) := goodIn_app (goodIn_of _ (by decide +kernel)) ggX3_readShort_X3_at
theorem dX3_readShort_0 : decode cX3_readShort 0 = .ok (.aload_n 0, 1) := by decide +kernel
theorem dX3_readShort_1 : decode cX3_readShort 1 = .ok (.iload_n 1, 1) := by decide +kernel
theorem dX3_readShort_2 : decode cX3_readShort 2 = .ok (.iload_n 2, 1) := by decide +kernel
theorem dX3_readShort_3 : decode cX3_readShort 3 = .ok (.iconst 4, 1) := by decide +kernel
theorem dX3_readShort_4 : decode cX3_readShort 4 = .ok (.invokevirtual 64, 3) := by decide +kernel
theorem dX3_readShort_7 : decode cX3_readShort 7 = .ok (.ifCond .eq 17, 3) := by decide +kernel
theorem dX3_readShort_10 : decode cX3_readShort 10 = .ok (.aload_n 0, 1) := by decide +kernel
theorem dX3_readShort_11 : decode cX3_readShort 11 = .ok (.getfield 16, 3) := by decide +kernel
theorem dX3_readShort_14 : decode cX3_readShort 14 = .ok (.iload_n 1, 1) := by decide +kernel
theorem dX3_readShort_15 : decode cX3_readShort 15 = .ok (.iload_n 2, 1) := by decide +kernel
theorem dX3_readShort_16 : decode cX3_readShort 16 = .ok (.invokestatic 48, 3) := by decide +kernel
theorem dX3_readShort_19 : decode cX3_readShort 19 = .ok (.laload, 1) := by decide +kernel
theorem dX3_readShort_20 : decode cX3_readShort 20 = .ok (.l2i, 1) := by decide +kernel
theorem dX3_readShort_21 : decode cX3_readShort 21 = .ok (.goto 4, 3) := by decide +kernel
theorem dX3_readShort_24 : decode cX3_readShort 24 = .ok (.iconst 0, 1) := by decide +kernel
theorem dX3_readShort_25 : decode cX3_readShort 25 = .ok (.ireturn, 1) := by decide +kernel
set_option maxRecDepth 20000 in
theorem ggX3_readInt_X3_reads : GoodIn wsX3_readInt wsX3_reads := goodIn_r _ [6, 7, 8, 9, 10, 11, 5, 12, 13, 14, 15, 16, 17, 18, 19, 20, 21, 22, 23, 24, 25, 26, 27, 28, 29, 30, 31, 32, 33, 34, 38, 39, 40, 41, 42, 43, 44, 45] (by decide +kernel) (by decide +kernel)
set_option maxRecDepth 20000 in
theorem gX3_readInt_X3_reads : GoodIn wsX3_readInt (wsV RX3 64 RX3 yX3_reads wsX3_reads) := goodIn_app (goodIn_of _ (by decide +kernel)) ggX3_readInt_X3_reads
set_option maxRecDepth 20000 in
theorem ggX3_readInt_X3_at : GoodIn wsX3_readInt wsX3_at := goodIn_r _ [37] (by decide +kernel) (by decide +kernel)
set_option maxRecDepth 20000 in
theorem gX3_readInt_X3_at : GoodIn wsX3_readInt (va_wsS RX3 48 yX3_at wsX3_at) := goodIn_app (goodIn_of _ (by decide +kernel)) ggX3_readInt_X3_at
theorem dX3_readInt_0 : decode cX3_readInt 0 = .ok (.aload_n 0, 1) := by decide +kernel
theorem dX3_readInt_1 : decode cX3_readInt 1 = .ok (.iload_n 1, 1) := by decide +kernel
theorem dX3_readInt_2 : decode cX3_readInt 2 = .ok (.iload_n 2, 1) := by decide +kernel
theorem dX3_readInt_3 : decode cX3_readInt 3 = .ok (.iconst 5, 1) := by decide +kernel
theorem dX3_readInt_4 : decode cX3_readInt 4 = .ok (.invokevirtual 64, 3) := by decide +kernel
theorem dX3_readInt_7 : decode cX3_readInt 7 = .ok (.ifCond .eq 17, 3) := by decide +kernel
theorem dX3_readInt_10 : decode cX3_readInt 10 = .ok (.aload_n 0, 1) := by decide +kernel
theorem dX3_readInt_11 : decode cX3_readInt 11 = .ok (.getfield 16, 3) := by decide +kernel
theorem dX3_readInt_14 : decode cX3_readInt 14 = .ok (.iload_n 1, 1) := by decide +kernel
theorem dX3_readInt_15 : decode cX3_readInt 15 = .ok (.iload_n 2, 1) := by decide +kernel
theorem dX3_readInt_16 : decode cX3_readInt 16 = .ok (.invokestatic 48, 3) := by decide +kernel
theorem dX3_readInt_19 : decode cX3_readInt 19 = .ok (.laload, 1) := by decide +kernel
theorem dX3_readInt_20 : decode cX3_readInt 20 = .ok (.l2i, 1) := by decide +kernel
theorem dX3_readInt_21 : decode cX3_readInt 21 = .ok (.goto 4, 3) := by decide +kernel
theorem dX3_readInt_24 : decode cX3_readInt 24 = .ok (.iconst 0, 1) := by decide +kernel
theorem dX3_readInt_25 : decode cX3_readInt 25 = .ok (.ireturn, 1) := by decide +kernel
set_option maxRecDepth 20000 in
theorem ggX3_readLong_X3_reads : GoodIn wsX3_readLong wsX3_reads := goodIn_r _ [6, 7, 8, 9, 10, 11, 5, 12, 13, 14, 15, 16, 17, 18, 19, 20, 21, 22, 23, 24, 25, 26, 27, 28, 29, 30, 31, 32, 33, 34, 38, 39, 40, 41, 42, 43, 44, 45] (by decide +kernel) (by decide +kernel)
set_option maxRecDepth 20000 in
theorem gX3_readLong_X3_reads : GoodIn wsX3_readLong (wsV RX3 64 RX3 yX3_reads wsX3_reads) := goodIn_app (goodIn_of _ (by decide +kernel)) ggX3_readLong_X3_reads
set_option maxRecDepth 20000 in
theorem ggX3_readLong_X3_at : GoodIn wsX3_readLong wsX3_at := goodIn_r _ [37] (by decide +kernel) (by decide +kernel)
set_option maxRecDepth 20000 in
theorem gX3_readLong_X3_at : GoodIn wsX3_readLong (va_wsS RX3 48 yX3_at wsX3_at) := goodIn_app (goodIn_of _ (by decide +kernel)) ggX3_readLong_X3_at
theorem dX3_readLong_0 : decode cX3_readLong 0 = .ok (.aload_n 0, 1) := by decide +kernel
theorem dX3_readLong_1 : decode cX3_readLong 1 = .ok (.iload_n 1, 1) := by decide +kernel
theorem dX3_readLong_2 : decode cX3_readLong 2 = .ok (.iload_n 2, 1) := by decide +kernel
theorem dX3_readLong_3 : decode cX3_readLong 3 = .ok (.bipush 6, 2) := by decide +kernel
theorem dX3_readLong_5 : decode cX3_readLong 5 = .ok (.invokevirtual 64, 3) := by decide +kernel
theorem dX3_readLong_8 : decode cX3_readLong 8 = .ok (.ifCond .eq 16, 3) := by decide +kernel
theorem dX3_readLong_11 : decode cX3_readLong 11 = .ok (.aload_n 0, 1) := by decide +kernel
theorem dX3_readLong_12 : decode cX3_readLong 12 = .ok (.getfield 16, 3) := by decide +kernel
theorem dX3_readLong_15 : decode cX3_readLong 15 = .ok (.iload_n 1, 1) := by decide +kernel
theorem dX3_readLong_16 : decode cX3_readLong 16 = .ok (.iload_n 2, 1) := by decide +kernel
theorem dX3_readLong_17 : decode cX3_readLong 17 = .ok (.invokestatic 48, 3) := by decide +kernel
theorem dX3_readLong_20 : decode cX3_readLong 20 = .ok (.laload, 1) := by decide +kernel
theorem dX3_readLong_21 : decode cX3_readLong 21 = .ok (.goto 4, 3) := by decide +kernel
theorem dX3_readLong_24 : decode cX3_readLong 24 = .ok (.lconst 0, 1) := by decide +kernel
theorem dX3_readLong_25 : decode cX3_readLong 25 = .ok (.lreturn, 1) := by decide +kernel
set_option maxRecDepth 20000 in
theorem ggX3_readFloat_X3_reads : GoodIn wsX3_readFloat wsX3_reads := goodIn_r _ [8, 9, 1, 10, 11, 12, 7, 13, 14, 15, 16, 17, 18, 19, 20, 21, 22, 23, 24, 25, 26, 27, 28, 29, 30, 31, 32, 33, 34, 35, 42, 43, 44, 45, 46, 47, 48, 49] (by decide +kernel) (by decide +kernel)
set_option maxRecDepth 20000 in
theorem gX3_readFloat_X3_reads : GoodIn wsX3_readFloat (wsV RX3 64 RX3 yX3_reads wsX3_reads) := goodIn_app (goodIn_of _ (by decide +kernel)) ggX3_readFloat_X3_reads
set_option maxRecDepth 20000 in
theorem ggX3_readFloat_X3_isReal : GoodIn wsX3_readFloat wsX3_isReal := goodIn_r _ [38] (by decide +kernel) (by decide +kernel)
set_option maxRecDepth 20000 in
theorem gX3_readFloat_X3_isReal : GoodIn wsX3_readFloat (va_wsS RX3 68 yX3_isReal wsX3_isReal) := goodIn_app (goodIn_of _ (by decide +kernel)) ggX3_readFloat_X3_isReal
set_option maxRecDepth 20000 in
theorem ggX3_readFloat_X3_at : GoodIn wsX3_readFloat wsX3_at := goodIn_r _ [41] (by decide +kernel) (by decide +kernel)
set_option maxRecDepth 20000 in
theorem gX3_readFloat_X3_at : GoodIn wsX3_readFloat (va_wsS RX3 48 yX3_at wsX3_at) := goodIn_app (goodIn_of _ (by decide +kernel)) ggX3_readFloat_X3_at
theorem dX3_readFloat_0 : decode cX3_readFloat 0 = .ok (.aload_n 0, 1) := by decide +kernel
theorem dX3_readFloat_1 : decode cX3_readFloat 1 = .ok (.iload_n 1, 1) := by decide +kernel
theorem dX3_readFloat_2 : decode cX3_readFloat 2 = .ok (.iload_n 2, 1) := by decide +kernel
theorem dX3_readFloat_3 : decode cX3_readFloat 3 = .ok (.bipush 7, 2) := by decide +kernel
theorem dX3_readFloat_5 : decode cX3_readFloat 5 = .ok (.invokevirtual 64, 3) := by decide +kernel
theorem dX3_readFloat_8 : decode cX3_readFloat 8 = .ok (.ifCond .ne 7, 3) := by decide +kernel
theorem dX3_readFloat_11 : decode cX3_readFloat 11 = .ok (.fconst 0, 1) := by decide +kernel
theorem dX3_readFloat_12 : decode cX3_readFloat 12 = .ok (.goto 40, 3) := by decide +kernel
theorem dX3_readFloat_15 : decode cX3_readFloat 15 = .ok (.aload_n 0, 1) := by decide +kernel
theorem dX3_readFloat_16 : decode cX3_readFloat 16 = .ok (.getfield 9, 3) := by decide +kernel
theorem dX3_readFloat_19 : decode cX3_readFloat 19 = .ok (.iload_n 1, 1) := by decide +kernel
theorem dX3_readFloat_20 : decode cX3_readFloat 20 = .ok (.iaload, 1) := by decide +kernel
theorem dX3_readFloat_21 : decode cX3_readFloat 21 = .ok (.invokestatic 68, 3) := by decide +kernel
theorem dX3_readFloat_24 : decode cX3_readFloat 24 = .ok (.ifCond .eq 17, 3) := by decide +kernel
theorem dX3_readFloat_27 : decode cX3_readFloat 27 = .ok (.aload_n 0, 1) := by decide +kernel
theorem dX3_readFloat_28 : decode cX3_readFloat 28 = .ok (.getfield 20, 3) := by decide +kernel
theorem dX3_readFloat_31 : decode cX3_readFloat 31 = .ok (.iload_n 1, 1) := by decide +kernel
theorem dX3_readFloat_32 : decode cX3_readFloat 32 = .ok (.iload_n 2, 1) := by decide +kernel
theorem dX3_readFloat_33 : decode cX3_readFloat 33 = .ok (.invokestatic 48, 3) := by decide +kernel
theorem dX3_readFloat_36 : decode cX3_readFloat 36 = .ok (.daload, 1) := by decide +kernel
theorem dX3_readFloat_37 : decode cX3_readFloat 37 = .ok (.d2f, 1) := by decide +kernel
theorem dX3_readFloat_38 : decode cX3_readFloat 38 = .ok (.goto 14, 3) := by decide +kernel
theorem dX3_readFloat_41 : decode cX3_readFloat 41 = .ok (.aload_n 0, 1) := by decide +kernel
theorem dX3_readFloat_42 : decode cX3_readFloat 42 = .ok (.getfield 16, 3) := by decide +kernel
theorem dX3_readFloat_45 : decode cX3_readFloat 45 = .ok (.iload_n 1, 1) := by decide +kernel
theorem dX3_readFloat_46 : decode cX3_readFloat 46 = .ok (.iload_n 2, 1) := by decide +kernel
theorem dX3_readFloat_47 : decode cX3_readFloat 47 = .ok (.invokestatic 48, 3) := by decide +kernel
theorem dX3_readFloat_50 : decode cX3_readFloat 50 = .ok (.laload, 1) := by decide +kernel
theorem dX3_readFloat_51 : decode cX3_readFloat 51 = .ok (.l2f, 1) := by decide +kernel
theorem dX3_readFloat_52 : decode cX3_readFloat 52 = .ok (.freturn, 1) := by decide +kernel
set_option maxRecDepth 20000 in
theorem ggX3_asDouble_X3_isReal : GoodIn wsX3_asDouble wsX3_isReal := goodIn_r _ [7] (by decide +kernel) (by decide +kernel)
set_option maxRecDepth 20000 in
theorem gX3_asDouble_X3_isReal : GoodIn wsX3_asDouble (va_wsS RX3 68 yX3_isReal wsX3_isReal) := goodIn_app (goodIn_of _ (by decide +kernel)) ggX3_asDouble_X3_isReal
set_option maxRecDepth 20000 in
theorem ggX3_asDouble_X3_at : GoodIn wsX3_asDouble wsX3_at := goodIn_r _ [10] (by decide +kernel) (by decide +kernel)
set_option maxRecDepth 20000 in
theorem gX3_asDouble_X3_at : GoodIn wsX3_asDouble (va_wsS RX3 48 yX3_at wsX3_at) := goodIn_app (goodIn_of _ (by decide +kernel)) ggX3_asDouble_X3_at
theorem dX3_asDouble_0 : decode cX3_asDouble 0 = .ok (.aload_n 0, 1) := by decide +kernel
theorem dX3_asDouble_1 : decode cX3_asDouble 1 = .ok (.getfield 9, 3) := by decide +kernel
theorem dX3_asDouble_4 : decode cX3_asDouble 4 = .ok (.iload_n 1, 1) := by decide +kernel
theorem dX3_asDouble_5 : decode cX3_asDouble 5 = .ok (.iaload, 1) := by decide +kernel
theorem dX3_asDouble_6 : decode cX3_asDouble 6 = .ok (.invokestatic 68, 3) := by decide +kernel
theorem dX3_asDouble_9 : decode cX3_asDouble 9 = .ok (.ifCond .eq 16, 3) := by decide +kernel
theorem dX3_asDouble_12 : decode cX3_asDouble 12 = .ok (.aload_n 0, 1) := by decide +kernel
theorem dX3_asDouble_13 : decode cX3_asDouble 13 = .ok (.getfield 20, 3) := by decide +kernel
theorem dX3_asDouble_16 : decode cX3_asDouble 16 = .ok (.iload_n 1, 1) := by decide +kernel
theorem dX3_asDouble_17 : decode cX3_asDouble 17 = .ok (.iload_n 2, 1) := by decide +kernel
theorem dX3_asDouble_18 : decode cX3_asDouble 18 = .ok (.invokestatic 48, 3) := by decide +kernel
theorem dX3_asDouble_21 : decode cX3_asDouble 21 = .ok (.daload, 1) := by decide +kernel
theorem dX3_asDouble_22 : decode cX3_asDouble 22 = .ok (.goto 14, 3) := by decide +kernel
theorem dX3_asDouble_25 : decode cX3_asDouble 25 = .ok (.aload_n 0, 1) := by decide +kernel
theorem dX3_asDouble_26 : decode cX3_asDouble 26 = .ok (.getfield 16, 3) := by decide +kernel
theorem dX3_asDouble_29 : decode cX3_asDouble 29 = .ok (.iload_n 1, 1) := by decide +kernel
theorem dX3_asDouble_30 : decode cX3_asDouble 30 = .ok (.iload_n 2, 1) := by decide +kernel
theorem dX3_asDouble_31 : decode cX3_asDouble 31 = .ok (.invokestatic 48, 3) := by decide +kernel
theorem dX3_asDouble_34 : decode cX3_asDouble 34 = .ok (.laload, 1) := by decide +kernel
theorem dX3_asDouble_35 : decode cX3_asDouble 35 = .ok (.l2d, 1) := by decide +kernel
theorem dX3_asDouble_36 : decode cX3_asDouble 36 = .ok (.dreturn, 1) := by decide +kernel
set_option maxRecDepth 20000 in
theorem ggX3_readDouble_X3_reads : GoodIn wsX3_readDouble wsX3_reads := goodIn_r _ [5, 6, 7, 8, 9, 10, 4, 11, 12, 13, 14, 15, 16, 17, 18, 19, 20, 21, 22, 23, 24, 25, 26, 27, 28, 29, 30, 31, 32, 33, 46, 47, 48, 49, 50, 51, 52, 53] (by decide +kernel) (by decide +kernel)
set_option maxRecDepth 20000 in
theorem gX3_readDouble_X3_reads : GoodIn wsX3_readDouble (wsV RX3 64 RX3 yX3_reads wsX3_reads) := goodIn_app (goodIn_of _ (by decide +kernel)) ggX3_readDouble_X3_reads
set_option maxRecDepth 20000 in
theorem ggX3_readDouble_X3_asDouble : GoodIn wsX3_readDouble wsX3_asDouble := goodIn_r _ [37, 7, 38, 39, 40, 41, 4, 42, 43, 44, 45, 46, 47, 48, 49, 50, 51, 52, 53] (by decide +kernel) (by decide +kernel)
set_option maxRecDepth 20000 in
theorem gX3_readDouble_X3_asDouble : GoodIn wsX3_readDouble (wsV RX3 71 RX3 yX3_asDouble wsX3_asDouble) := goodIn_app (goodIn_of _ (by decide +kernel)) ggX3_readDouble_X3_asDouble
theorem dX3_readDouble_0 : decode cX3_readDouble 0 = .ok (.aload_n 0, 1) := by decide +kernel
theorem dX3_readDouble_1 : decode cX3_readDouble 1 = .ok (.iload_n 1, 1) := by decide +kernel
theorem dX3_readDouble_2 : decode cX3_readDouble 2 = .ok (.iload_n 2, 1) := by decide +kernel
theorem dX3_readDouble_3 : decode cX3_readDouble 3 = .ok (.bipush 8, 2) := by decide +kernel
theorem dX3_readDouble_5 : decode cX3_readDouble 5 = .ok (.invokevirtual 64, 3) := by decide +kernel
theorem dX3_readDouble_8 : decode cX3_readDouble 8 = .ok (.ifCond .eq 12, 3) := by decide +kernel
theorem dX3_readDouble_11 : decode cX3_readDouble 11 = .ok (.aload_n 0, 1) := by decide +kernel
theorem dX3_readDouble_12 : decode cX3_readDouble 12 = .ok (.iload_n 1, 1) := by decide +kernel
theorem dX3_readDouble_13 : decode cX3_readDouble 13 = .ok (.iload_n 2, 1) := by decide +kernel
theorem dX3_readDouble_14 : decode cX3_readDouble 14 = .ok (.invokevirtual 71, 3) := by decide +kernel
theorem dX3_readDouble_17 : decode cX3_readDouble 17 = .ok (.goto 4, 3) := by decide +kernel
theorem dX3_readDouble_20 : decode cX3_readDouble 20 = .ok (.dconst 0, 1) := by decide +kernel
theorem dX3_readDouble_21 : decode cX3_readDouble 21 = .ok (.dreturn, 1) := by decide +kernel
set_option maxRecDepth 20000 in
theorem ggX3_readAny_X3_isColumn : GoodIn wsX3_readAny wsX3_isColumn := goodIn_r _ [6, 7, 36, 37, 38, 39, 40, 41, 42, 43] (by decide +kernel) (by decide +kernel)
set_option maxRecDepth 20000 in
theorem gX3_readAny_X3_isColumn : GoodIn wsX3_readAny (wsV RX3 52 RX3 yX3_isColumn wsX3_isColumn) := goodIn_app (goodIn_of _ (by decide +kernel)) ggX3_readAny_X3_isColumn
set_option maxRecDepth 20000 in
theorem ggX3_readAny_X3_codeOf_ : GoodIn wsX3_readAny wsX3_codeOf_ := goodIn_r _ [11, 12, 13, 14, 15, 5, 16, 17, 36, 37, 38, 39, 40, 41, 42, 43] (by decide +kernel) (by decide +kernel)
set_option maxRecDepth 20000 in
theorem gX3_readAny_X3_codeOf_ : GoodIn wsX3_readAny (wsV RX3 58 RX3 yX3_codeOf_ wsX3_codeOf_) := goodIn_app (goodIn_of _ (by decide +kernel)) ggX3_readAny_X3_codeOf_
set_option maxRecDepth 20000 in
theorem ggX3_readAny_X3_note : GoodIn wsX3_readAny wsX3_note := goodIn_r _ [21, 22, 23, 36, 37, 38, 39, 40, 41, 42, 43] (by decide +kernel) (by decide +kernel)
set_option maxRecDepth 20000 in
theorem gX3_readAny_X3_note : GoodIn wsX3_readAny (wsV RX3 55 RX3 yX3_note wsX3_note) := goodIn_app (goodIn_of _ (by decide +kernel)) ggX3_readAny_X3_note
set_option maxRecDepth 20000 in
theorem ggX3_readAny_X3_asDouble : GoodIn wsX3_readAny wsX3_asDouble := goodIn_r _ [27, 17, 28, 29, 30, 31, 5, 32, 33, 34, 35, 36, 37, 38, 39, 40, 41, 42, 43] (by decide +kernel) (by decide +kernel)
set_option maxRecDepth 20000 in
theorem gX3_readAny_X3_asDouble : GoodIn wsX3_readAny (wsV RX3 71 RX3 yX3_asDouble wsX3_asDouble) := goodIn_app (goodIn_of _ (by decide +kernel)) ggX3_readAny_X3_asDouble
theorem dX3_readAny_0 : decode cX3_readAny 0 = .ok (.aload_n 0, 1) := by decide +kernel
theorem dX3_readAny_1 : decode cX3_readAny 1 = .ok (.aload_n 0, 1) := by decide +kernel
theorem dX3_readAny_2 : decode cX3_readAny 2 = .ok (.iload_n 1, 1) := by decide +kernel
theorem dX3_readAny_3 : decode cX3_readAny 3 = .ok (.invokevirtual 52, 3) := by decide +kernel
theorem dX3_readAny_6 : decode cX3_readAny 6 = .ok (.ifCond .eq 7, 3) := by decide +kernel
theorem dX3_readAny_9 : decode cX3_readAny 9 = .ok (.iconst 0, 1) := by decide +kernel
theorem dX3_readAny_10 : decode cX3_readAny 10 = .ok (.goto 4, 3) := by decide +kernel
theorem dX3_readAny_13 : decode cX3_readAny 13 = .ok (.iconst 1, 1) := by decide +kernel
theorem dX3_readAny_14 : decode cX3_readAny 14 = .ok (.putfield 27, 3) := by decide +kernel
theorem dX3_readAny_17 : decode cX3_readAny 17 = .ok (.aload_n 0, 1) := by decide +kernel
theorem dX3_readAny_18 : decode cX3_readAny 18 = .ok (.getfield 27, 3) := by decide +kernel
theorem dX3_readAny_21 : decode cX3_readAny 21 = .ok (.ifCond .ne 25, 3) := by decide +kernel
theorem dX3_readAny_24 : decode cX3_readAny 24 = .ok (.aload_n 0, 1) := by decide +kernel
theorem dX3_readAny_25 : decode cX3_readAny 25 = .ok (.aload_n 0, 1) := by decide +kernel
theorem dX3_readAny_26 : decode cX3_readAny 26 = .ok (.iload_n 1, 1) := by decide +kernel
theorem dX3_readAny_27 : decode cX3_readAny 27 = .ok (.iload_n 2, 1) := by decide +kernel
theorem dX3_readAny_28 : decode cX3_readAny 28 = .ok (.invokevirtual 58, 3) := by decide +kernel
theorem dX3_readAny_31 : decode cX3_readAny 31 = .ok (.invokevirtual 55, 3) := by decide +kernel
theorem dX3_readAny_34 : decode cX3_readAny 34 = .ok (.ifCond .eq 12, 3) := by decide +kernel
theorem dX3_readAny_37 : decode cX3_readAny 37 = .ok (.aload_n 0, 1) := by decide +kernel
theorem dX3_readAny_38 : decode cX3_readAny 38 = .ok (.iload_n 1, 1) := by decide +kernel
theorem dX3_readAny_39 : decode cX3_readAny 39 = .ok (.iload_n 2, 1) := by decide +kernel
theorem dX3_readAny_40 : decode cX3_readAny 40 = .ok (.invokevirtual 71, 3) := by decide +kernel
theorem dX3_readAny_43 : decode cX3_readAny 43 = .ok (.goto 4, 3) := by decide +kernel
theorem dX3_readAny_46 : decode cX3_readAny 46 = .ok (.dconst 0, 1) := by decide +kernel
theorem dX3_readAny_47 : decode cX3_readAny 47 = .ok (.dreturn, 1) := by decide +kernel
set_option maxRecDepth 20000 in
theorem ggX3_write_X3_isColumn : GoodIn wsX3_write wsX3_isColumn := goodIn_r _ [10, 11, 38, 39, 40, 41, 42, 43, 44, 45] (by decide +kernel) (by decide +kernel)
set_option maxRecDepth 20000 in
theorem gX3_write_X3_isColumn : GoodIn wsX3_write (wsV RX3 52 RX3 yX3_isColumn wsX3_isColumn) := goodIn_app (goodIn_of _ (by decide +kernel)) ggX3_write_X3_isColumn
set_option maxRecDepth 20000 in
theorem ggX3_write_X3_codeOf_ : GoodIn wsX3_write wsX3_codeOf_ := goodIn_r _ [15, 16, 17, 18, 19, 9, 20, 2, 38, 39, 40, 41, 42, 43, 44, 45] (by decide +kernel) (by decide +kernel)
set_option maxRecDepth 20000 in
theorem gX3_write_X3_codeOf_ : GoodIn wsX3_write (wsV RX3 58 RX3 yX3_codeOf_ wsX3_codeOf_) := goodIn_app (goodIn_of _ (by decide +kernel)) ggX3_write_X3_codeOf_
set_option maxRecDepth 20000 in
theorem ggX3_write_X3_widens : GoodIn wsX3_write wsX3_widens := goodIn_r _ [23, 24, 25, 9, 26] (by decide +kernel) (by decide +kernel)
set_option maxRecDepth 20000 in
theorem gX3_write_X3_widens : GoodIn wsX3_write (va_wsS RX3 60 yX3_widens wsX3_widens) := goodIn_app (goodIn_of _ (by decide +kernel)) ggX3_write_X3_widens
set_option maxRecDepth 20000 in
theorem ggX3_write_X3_note : GoodIn wsX3_write wsX3_note := goodIn_r _ [30, 3, 31, 38, 39, 40, 41, 42, 43, 44, 45] (by decide +kernel) (by decide +kernel)
set_option maxRecDepth 20000 in
theorem gX3_write_X3_note : GoodIn wsX3_write (wsV RX3 55 RX3 yX3_note wsX3_note) := goodIn_app (goodIn_of _ (by decide +kernel)) ggX3_write_X3_note
set_option maxRecDepth 20000 in
theorem ggX3_write_X3_isReal : GoodIn wsX3_write wsX3_isReal := goodIn_r _ [34] (by decide +kernel) (by decide +kernel)
set_option maxRecDepth 20000 in
theorem gX3_write_X3_isReal : GoodIn wsX3_write (va_wsS RX3 68 yX3_isReal wsX3_isReal) := goodIn_app (goodIn_of _ (by decide +kernel)) ggX3_write_X3_isReal
set_option maxRecDepth 20000 in
theorem ggX3_write_X3_at : GoodIn wsX3_write wsX3_at := goodIn_r _ [37] (by decide +kernel) (by decide +kernel)
set_option maxRecDepth 20000 in
theorem gX3_write_X3_at : GoodIn wsX3_write (va_wsS RX3 48 yX3_at wsX3_at) := goodIn_app (goodIn_of _ (by decide +kernel)) ggX3_write_X3_at
theorem dX3_write_0 : decode cX3_write 0 = .ok (.aload_n 0, 1) := by decide +kernel
theorem dX3_write_1 : decode cX3_write 1 = .ok (.aload_n 0, 1) := by decide +kernel
theorem dX3_write_2 : decode cX3_write 2 = .ok (.iload_n 1, 1) := by decide +kernel
theorem dX3_write_3 : decode cX3_write 3 = .ok (.invokevirtual 52, 3) := by decide +kernel
theorem dX3_write_6 : decode cX3_write 6 = .ok (.ifCond .eq 7, 3) := by decide +kernel
theorem dX3_write_9 : decode cX3_write 9 = .ok (.iconst 0, 1) := by decide +kernel
theorem dX3_write_10 : decode cX3_write 10 = .ok (.goto 4, 3) := by decide +kernel
theorem dX3_write_13 : decode cX3_write 13 = .ok (.iconst 1, 1) := by decide +kernel
theorem dX3_write_14 : decode cX3_write 14 = .ok (.putfield 27, 3) := by decide +kernel
theorem dX3_write_17 : decode cX3_write 17 = .ok (.aload_n 0, 1) := by decide +kernel
theorem dX3_write_18 : decode cX3_write 18 = .ok (.getfield 27, 3) := by decide +kernel
theorem dX3_write_21 : decode cX3_write 21 = .ok (.ifCond .eq 5, 3) := by decide +kernel
theorem dX3_write_24 : decode cX3_write 24 = .ok (.iconst 0, 1) := by decide +kernel
theorem dX3_write_25 : decode cX3_write 25 = .ok (.ireturn, 1) := by decide +kernel
theorem dX3_write_26 : decode cX3_write 26 = .ok (.aload_n 0, 1) := by decide +kernel
theorem dX3_write_27 : decode cX3_write 27 = .ok (.iload_n 1, 1) := by decide +kernel
theorem dX3_write_28 : decode cX3_write 28 = .ok (.iload_n 2, 1) := by decide +kernel
theorem dX3_write_29 : decode cX3_write 29 = .ok (.invokevirtual 58, 3) := by decide +kernel
theorem dX3_write_32 : decode cX3_write 32 = .ok (.istore 8, 2) := by decide +kernel
theorem dX3_write_34 : decode cX3_write 34 = .ok (.aload_n 0, 1) := by decide +kernel
theorem dX3_write_35 : decode cX3_write 35 = .ok (.iload 8, 2) := by decide +kernel
theorem dX3_write_37 : decode cX3_write 37 = .ok (.ifCond .ne 20, 3) := by decide +kernel
theorem dX3_write_40 : decode cX3_write 40 = .ok (.iload_n 3, 1) := by decide +kernel
theorem dX3_write_41 : decode cX3_write 41 = .ok (.aload_n 0, 1) := by decide +kernel
theorem dX3_write_42 : decode cX3_write 42 = .ok (.getfield 9, 3) := by decide +kernel
theorem dX3_write_45 : decode cX3_write 45 = .ok (.iload_n 1, 1) := by decide +kernel
theorem dX3_write_46 : decode cX3_write 46 = .ok (.iaload, 1) := by decide +kernel
theorem dX3_write_47 : decode cX3_write 47 = .ok (.invokestatic 60, 3) := by decide +kernel
theorem dX3_write_50 : decode cX3_write 50 = .ok (.ifCond .ne 7, 3) := by decide +kernel
theorem dX3_write_53 : decode cX3_write 53 = .ok (.iconst 4, 1) := by decide +kernel
theorem dX3_write_54 : decode cX3_write 54 = .ok (.goto 5, 3) := by decide +kernel
theorem dX3_write_57 : decode cX3_write 57 = .ok (.iload 8, 2) := by decide +kernel
theorem dX3_write_59 : decode cX3_write 59 = .ok (.invokevirtual 55, 3) := by decide +kernel
theorem dX3_write_62 : decode cX3_write 62 = .ok (.ifCond .ne 8, 3) := by decide +kernel
theorem dX3_write_65 : decode cX3_write 65 = .ok (.aload_n 0, 1) := by decide +kernel
theorem dX3_write_66 : decode cX3_write 66 = .ok (.getfield 38, 3) := by decide +kernel
theorem dX3_write_69 : decode cX3_write 69 = .ok (.ireturn, 1) := by decide +kernel
theorem dX3_write_70 : decode cX3_write 70 = .ok (.aload_n 0, 1) := by decide +kernel
theorem dX3_write_71 : decode cX3_write 71 = .ok (.getfield 9, 3) := by decide +kernel
theorem dX3_write_74 : decode cX3_write 74 = .ok (.iload_n 1, 1) := by decide +kernel
theorem dX3_write_75 : decode cX3_write 75 = .ok (.iaload, 1) := by decide +kernel
theorem dX3_write_76 : decode cX3_write 76 = .ok (.invokestatic 68, 3) := by decide +kernel
theorem dX3_write_79 : decode cX3_write 79 = .ok (.ifCond .ne 18, 3) := by decide +kernel
theorem dX3_write_82 : decode cX3_write 82 = .ok (.aload_n 0, 1) := by decide +kernel
theorem dX3_write_83 : decode cX3_write 83 = .ok (.getfield 16, 3) := by decide +kernel
theorem dX3_write_86 : decode cX3_write 86 = .ok (.iload_n 1, 1) := by decide +kernel
theorem dX3_write_87 : decode cX3_write 87 = .ok (.iload_n 2, 1) := by decide +kernel
theorem dX3_write_88 : decode cX3_write 88 = .ok (.invokestatic 48, 3) := by decide +kernel
theorem dX3_write_91 : decode cX3_write 91 = .ok (.lload 4, 2) := by decide +kernel
theorem dX3_write_93 : decode cX3_write 93 = .ok (.lastore, 1) := by decide +kernel
theorem dX3_write_94 : decode cX3_write 94 = .ok (.goto 56, 3) := by decide +kernel
theorem dX3_write_97 : decode cX3_write 97 = .ok (.iload_n 3, 1) := by decide +kernel
theorem dX3_write_98 : decode cX3_write 98 = .ok (.invokestatic 68, 3) := by decide +kernel
theorem dX3_write_101 : decode cX3_write 101 = .ok (.ifCond .eq 18, 3) := by decide +kernel
theorem dX3_write_104 : decode cX3_write 104 = .ok (.aload_n 0, 1) := by decide +kernel
theorem dX3_write_105 : decode cX3_write 105 = .ok (.getfield 20, 3) := by decide +kernel
theorem dX3_write_108 : decode cX3_write 108 = .ok (.iload_n 1, 1) := by decide +kernel
theorem dX3_write_109 : decode cX3_write 109 = .ok (.iload_n 2, 1) := by decide +kernel
theorem dX3_write_110 : decode cX3_write 110 = .ok (.invokestatic 48, 3) := by decide +kernel
theorem dX3_write_113 : decode cX3_write 113 = .ok (.dload 6, 2) := by decide +kernel
theorem dX3_write_115 : decode cX3_write 115 = .ok (.dastore, 1) := by decide +kernel
theorem dX3_write_116 : decode cX3_write 116 = .ok (.goto 34, 3) := by decide +kernel
theorem dX3_write_119 : decode cX3_write 119 = .ok (.aload_n 0, 1) := by decide +kernel
theorem dX3_write_120 : decode cX3_write 120 = .ok (.getfield 20, 3) := by decide +kernel
theorem dX3_write_123 : decode cX3_write 123 = .ok (.iload_n 1, 1) := by decide +kernel
theorem dX3_write_124 : decode cX3_write 124 = .ok (.iload_n 2, 1) := by decide +kernel
theorem dX3_write_125 : decode cX3_write 125 = .ok (.invokestatic 48, 3) := by decide +kernel
theorem dX3_write_128 : decode cX3_write 128 = .ok (.aload_n 0, 1) := by decide +kernel
theorem dX3_write_129 : decode cX3_write 129 = .ok (.getfield 9, 3) := by decide +kernel
theorem dX3_write_132 : decode cX3_write 132 = .ok (.iload_n 1, 1) := by decide +kernel
theorem dX3_write_133 : decode cX3_write 133 = .ok (.iaload, 1) := by decide +kernel
theorem dX3_write_134 : decode cX3_write 134 = .ok (.bipush 7, 2) := by decide +kernel
theorem dX3_write_136 : decode cX3_write 136 = .ok (.if_icmp .ne 10, 3) := by decide +kernel
theorem dX3_write_139 : decode cX3_write 139 = .ok (.lload 4, 2) := by decide +kernel
theorem dX3_write_141 : decode cX3_write 141 = .ok (.l2f, 1) := by decide +kernel
theorem dX3_write_142 : decode cX3_write 142 = .ok (.f2d, 1) := by decide +kernel
theorem dX3_write_143 : decode cX3_write 143 = .ok (.goto 6, 3) := by decide +kernel
theorem dX3_write_146 : decode cX3_write 146 = .ok (.lload 4, 2) := by decide +kernel
theorem dX3_write_148 : decode cX3_write 148 = .ok (.l2d, 1) := by decide +kernel
theorem dX3_write_149 : decode cX3_write 149 = .ok (.dastore, 1) := by decide +kernel
theorem dX3_write_150 : decode cX3_write 150 = .ok (.aload_n 0, 1) := by decide +kernel
theorem dX3_write_151 : decode cX3_write 151 = .ok (.getfield 38, 3) := by decide +kernel
theorem dX3_write_154 : decode cX3_write 154 = .ok (.ireturn, 1) := by decide +kernel
set_option maxRecDepth 20000 in
theorem ggX3_writeBoolean_X3_write : GoodIn wsX3_writeBoolean wsX3_write := goodIn_r _ [5, 6, 7, 8, 9, 10, 11, 12, 13, 4, 14, 15, 16, 17, 18, 19, 20, 21, 22, 23, 24, 25, 26, 27, 28, 29, 30, 31, 32, 33, 34, 35, 36, 37, 38, 39, 40, 41, 42, 43, 44, 45, 46, 47, 48, 49] (by decide +kernel) (by decide +kernel)
set_option maxRecDepth 20000 in
theorem gX3_writeBoolean_X3_write : GoodIn wsX3_writeBoolean (wsV RX3 75 RX3 yX3_write wsX3_write) := goodIn_app (goodIn_of _ (by decide +kernel)) ggX3_writeBoolean_X3_write
theorem dX3_writeBoolean_0 : decode cX3_writeBoolean 0 = .ok (.aload_n 0, 1) := by decide +kernel
theorem dX3_writeBoolean_1 : decode cX3_writeBoolean 1 = .ok (.iload_n 1, 1) := by decide +kernel
theorem dX3_writeBoolean_2 : decode cX3_writeBoolean 2 = .ok (.iload_n 2, 1) := by decide +kernel
theorem dX3_writeBoolean_3 : decode cX3_writeBoolean 3 = .ok (.iconst 1, 1) := by decide +kernel
theorem dX3_writeBoolean_4 : decode cX3_writeBoolean 4 = .ok (.iload_n 3, 1) := by decide +kernel
theorem dX3_writeBoolean_5 : decode cX3_writeBoolean 5 = .ok (.ifCond .eq 7, 3) := by decide +kernel
theorem dX3_writeBoolean_8 : decode cX3_writeBoolean 8 = .ok (.lconst 1, 1) := by decide +kernel
theorem dX3_writeBoolean_9 : decode cX3_writeBoolean 9 = .ok (.goto 4, 3) := by decide +kernel
theorem dX3_writeBoolean_12 : decode cX3_writeBoolean 12 = .ok (.lconst 0, 1) := by decide +kernel
theorem dX3_writeBoolean_13 : decode cX3_writeBoolean 13 = .ok (.dconst 0, 1) := by decide +kernel
theorem dX3_writeBoolean_14 : decode cX3_writeBoolean 14 = .ok (.invokevirtual 75, 3) := by decide +kernel
theorem dX3_writeBoolean_17 : decode cX3_writeBoolean 17 = .ok (.ireturn, 1) := by decide +kernel
set_option maxRecDepth 20000 in
theorem ggX3_writeByte_X3_write : GoodIn wsX3_writeByte wsX3_write := goodIn_r _ [5, 6, 7, 8, 9, 10, 11, 12, 13, 4, 14, 15, 16, 17, 18, 19, 20, 21, 22, 23, 24, 25, 26, 27, 28, 29, 30, 31, 32, 33, 34, 35, 36, 37, 38, 39, 40, 41, 42, 43, 44, 45, 46, 47, 48, 49] (by decide +kernel) (by decide +kernel)
set_option maxRecDepth 20000 in
theorem gX3_writeByte_X3_write : GoodIn wsX3_writeByte (wsV RX3 75 RX3 yX3_write wsX3_write) := goodIn_app (goodIn_of _ (by decide +kernel)) ggX3_writeByte_X3_write
theorem dX3_writeByte_0 : decode cX3_writeByte 0 = .ok (.aload_n 0, 1) := by decide +kernel
theorem dX3_writeByte_1 : decode cX3_writeByte 1 = .ok (.iload_n 1, 1) := by decide +kernel
theorem dX3_writeByte_2 : decode cX3_writeByte 2 = .ok (.iload_n 2, 1) := by decide +kernel
theorem dX3_writeByte_3 : decode cX3_writeByte 3 = .ok (.iconst 2, 1) := by decide +kernel
theorem dX3_writeByte_4 : decode cX3_writeByte 4 = .ok (.iload_n 3, 1) := by decide +kernel
theorem dX3_writeByte_5 : decode cX3_writeByte 5 = .ok (.bipush 24, 2) := by decide +kernel
theorem dX3_writeByte_7 : decode cX3_writeByte 7 = .ok (.ishl, 1) := by decide +kernel
theorem dX3_writeByte_8 : decode cX3_writeByte 8 = .ok (.bipush 24, 2) := by decide +kernel
theorem dX3_writeByte_10 : decode cX3_writeByte 10 = .ok (.ishr, 1) := by decide +kernel
theorem dX3_writeByte_11 : decode cX3_writeByte 11 = .ok (.i2l, 1) := by decide +kernel
theorem dX3_writeByte_12 : decode cX3_writeByte 12 = .ok (.dconst 0, 1) := by decide +kernel
theorem dX3_writeByte_13 : decode cX3_writeByte 13 = .ok (.invokevirtual 75, 3) := by decide +kernel
theorem dX3_writeByte_16 : decode cX3_writeByte 16 = .ok (.ireturn, 1) := by decide +kernel
set_option maxRecDepth 20000 in
theorem ggX3_writeChar_X3_write : GoodIn wsX3_writeChar wsX3_write := goodIn_r _ [6, 7, 8, 9, 10, 11, 12, 13, 14, 5, 15, 16, 17, 18, 19, 20, 21, 22, 23, 24, 25, 26, 27, 28, 29, 30, 31, 32, 33, 34, 35, 36, 37, 38, 39, 40, 41, 42, 43, 44, 45, 46, 47, 48, 49, 50] (by decide +kernel) (by decide +kernel)
set_option maxRecDepth 20000 in
theorem gX3_writeChar_X3_write : GoodIn wsX3_writeChar (wsV RX3 75 RX3 yX3_write wsX3_write) := goodIn_app (goodIn_of _ (by decide +kernel)) ggX3_writeChar_X3_write
theorem dX3_writeChar_0 : decode cX3_writeChar 0 = .ok (.aload_n 0, 1) := by decide +kernel
theorem dX3_writeChar_1 : decode cX3_writeChar 1 = .ok (.iload_n 1, 1) := by decide +kernel
theorem dX3_writeChar_2 : decode cX3_writeChar 2 = .ok (.iload_n 2, 1) := by decide +kernel
theorem dX3_writeChar_3 : decode cX3_writeChar 3 = .ok (.iconst 3, 1) := by decide +kernel
theorem dX3_writeChar_4 : decode cX3_writeChar 4 = .ok (.iload_n 3, 1) := by decide +kernel
theorem dX3_writeChar_5 : decode cX3_writeChar 5 = .ok (.ldc 79, 2) := by decide +kernel
theorem dX3_writeChar_7 : decode cX3_writeChar 7 = .ok (.iand, 1) := by decide +kernel
theorem dX3_writeChar_8 : decode cX3_writeChar 8 = .ok (.i2l, 1) := by decide +kernel
theorem dX3_writeChar_9 : decode cX3_writeChar 9 = .ok (.dconst 0, 1) := by decide +kernel
theorem dX3_writeChar_10 : decode cX3_writeChar 10 = .ok (.invokevirtual 75, 3) := by decide +kernel
theorem dX3_writeChar_13 : decode cX3_writeChar 13 = .ok (.ireturn, 1) := by decide +kernel
set_option maxRecDepth 20000 in
theorem ggX3_writeShort_X3_write : GoodIn wsX3_writeShort wsX3_write := goodIn_r _ [5, 6, 7, 8, 9, 10, 11, 12, 13, 4, 14, 15, 16, 17, 18, 19, 20, 21, 22, 23, 24, 25, 26, 27, 28, 29, 30, 31, 32, 33, 34, 35, 36, 37, 38, 39, 40, 41, 42, 43, 44, 45, 46, 47, 48, 49] (by decide +kernel) (by decide +kernel)
set_option maxRecDepth 20000 in
theorem gX3_writeShort_X3_write : GoodIn wsX3_writeShort (wsV RX3 75 RX3 yX3_write wsX3_write) := goodIn_app (goodIn_of _ (by decide +kernel)) ggX3_writeShort_X3_write
theorem dX3_writeShort_0 : decode cX3_writeShort 0 = .ok (.aload_n 0, 1) := by decide +kernel
theorem dX3_writeShort_1 : decode cX3_writeShort 1 = .ok (.iload_n 1, 1) := by decide +kernel
theorem dX3_writeShort_2 : decode cX3_writeShort 2 = .ok (.iload_n 2, 1) := by decide +kernel
theorem dX3_writeShort_3 : decode cX3_writeShort 3 = .ok (.iconst 4, 1) := by decide +kernel
theorem dX3_writeShort_4 : decode cX3_writeShort 4 = .ok (.iload_n 3, 1) := by decide +kernel
theorem dX3_writeShort_5 : decode cX3_writeShort 5 = .ok (.bipush 16, 2) := by decide +kernel
theorem dX3_writeShort_7 : decode cX3_writeShort 7 = .ok (.ishl, 1) := by decide +kernel
theorem dX3_writeShort_8 : decode cX3_writeShort 8 = .ok (.bipush 16, 2) := by decide +kernel
theorem dX3_writeShort_10 : decode cX3_writeShort 10 = .ok (.ishr, 1) := by decide +kernel
theorem dX3_writeShort_11 : decode cX3_writeShort 11 = .ok (.i2l, 1) := by decide +kernel
theorem dX3_writeShort_12 : decode cX3_writeShort 12 = .ok (.dconst 0, 1) := by decide +kernel
theorem dX3_writeShort_13 : decode cX3_writeShort 13 = .ok (.invokevirtual 75, 3) := by decide +kernel
theorem dX3_writeShort_16 : decode cX3_writeShort 16 = .ok (.ireturn, 1) := by decide +kernel
set_option maxRecDepth 20000 in
theorem ggX3_writeInt_X3_write : GoodIn wsX3_writeInt wsX3_write := goodIn_r _ [5, 6, 7, 8, 9, 10, 11, 12, 13, 4, 14, 15, 16, 17, 18, 19, 20, 21, 22, 23, 24, 25, 26, 27, 28, 29, 30, 31, 32, 33, 34, 35, 36, 37, 38, 39, 40, 41, 42, 43, 44, 45, 46, 47, 48, 49] (by decide +kernel) (by decide +kernel)
set_option maxRecDepth 20000 in
theorem gX3_writeInt_X3_write : GoodIn wsX3_writeInt (wsV RX3 75 RX3 yX3_write wsX3_write) := goodIn_app (goodIn_of _ (by decide +kernel)) ggX3_writeInt_X3_write
theorem dX3_writeInt_0 : decode cX3_writeInt 0 = .ok (.aload_n 0, 1) := by decide +kernel
theorem dX3_writeInt_1 : decode cX3_writeInt 1 = .ok (.iload_n 1, 1) := by decide +kernel
theorem dX3_writeInt_2 : decode cX3_writeInt 2 = .ok (.iload_n 2, 1) := by decide +kernel
theorem dX3_writeInt_3 : decode cX3_writeInt 3 = .ok (.iconst 5, 1) := by decide +kernel
theorem dX3_writeInt_4 : decode cX3_writeInt 4 = .ok (.iload_n 3, 1) := by decide +kernel
theorem dX3_writeInt_5 : decode cX3_writeInt 5 = .ok (.i2l, 1) := by decide +kernel
theorem dX3_writeInt_6 : decode cX3_writeInt 6 = .ok (.dconst 0, 1) := by decide +kernel
theorem dX3_writeInt_7 : decode cX3_writeInt 7 = .ok (.invokevirtual 75, 3) := by decide +kernel
theorem dX3_writeInt_10 : decode cX3_writeInt 10 = .ok (.ireturn, 1) := by decide +kernel
set_option maxRecDepth 20000 in
theorem ggX3_writeLong_X3_write : GoodIn wsX3_writeLong wsX3_write := goodIn_r _ [5, 6, 7, 8, 9, 10, 11, 12, 13, 4, 14, 15, 16, 17, 18, 19, 20, 21, 22, 23, 24, 25, 26, 27, 28, 29, 30, 31, 32, 33, 34, 35, 36, 37, 38, 39, 40, 41, 42, 43, 44, 45, 46, 47, 48, 49] (by decide +kernel) (by decide +kernel)
set_option maxRecDepth 20000 in
theorem gX3_writeLong_X3_write : GoodIn wsX3_writeLong (wsV RX3 75 RX3 yX3_write wsX3_write) := goodIn_app (goodIn_of _ (by decide +kernel)) ggX3_writeLong_X3_write
theorem dX3_writeLong_0 : decode cX3_writeLong 0 = .ok (.aload_n 0, 1) := by decide +kernel
theorem dX3_writeLong_1 : decode cX3_writeLong 1 = .ok (.iload_n 1, 1) := by decide +kernel
theorem dX3_writeLong_2 : decode cX3_writeLong 2 = .ok (.iload_n 2, 1) := by decide +kernel
theorem dX3_writeLong_3 : decode cX3_writeLong 3 = .ok (.bipush 6, 2) := by decide +kernel
theorem dX3_writeLong_5 : decode cX3_writeLong 5 = .ok (.lload_n 3, 1) := by decide +kernel
theorem dX3_writeLong_6 : decode cX3_writeLong 6 = .ok (.dconst 0, 1) := by decide +kernel
theorem dX3_writeLong_7 : decode cX3_writeLong 7 = .ok (.invokevirtual 75, 3) := by decide +kernel
theorem dX3_writeLong_10 : decode cX3_writeLong 10 = .ok (.ireturn, 1) := by decide +kernel
set_option maxRecDepth 20000 in
theorem ggX3_writeFloat_X3_write : GoodIn wsX3_writeFloat wsX3_write := goodIn_r _ [5, 6, 7, 8, 9, 10, 11, 12, 13, 4, 14, 15, 16, 17, 18, 19, 20, 21, 22, 23, 24, 25, 26, 27, 28, 29, 30, 31, 32, 33, 34, 35, 36, 37, 38, 39, 40, 41, 42, 43, 44, 45, 46, 47, 48, 49] (by decide +kernel) (by decide +kernel)
set_option maxRecDepth 20000 in
theorem gX3_writeFloat_X3_write : GoodIn wsX3_writeFloat (wsV RX3 75 RX3 yX3_write wsX3_write) := goodIn_app (goodIn_of _ (by decide +kernel)) ggX3_writeFloat_X3_write
theorem dX3_writeFloat_0 : decode cX3_writeFloat 0 = .ok (.aload_n 0, 1) := by decide +kernel
theorem dX3_writeFloat_1 : decode cX3_writeFloat 1 = .ok (.iload_n 1, 1) := by decide +kernel
theorem dX3_writeFloat_2 : decode cX3_writeFloat 2 = .ok (.iload_n 2, 1) := by decide +kernel
theorem dX3_writeFloat_3 : decode cX3_writeFloat 3 = .ok (.bipush 7, 2) := by decide +kernel
theorem dX3_writeFloat_5 : decode cX3_writeFloat 5 = .ok (.lconst 0, 1) := by decide +kernel
theorem dX3_writeFloat_6 : decode cX3_writeFloat 6 = .ok (.fload_n 3, 1) := by decide +kernel
theorem dX3_writeFloat_7 : decode cX3_writeFloat 7 = .ok (.f2d, 1) := by decide +kernel
theorem dX3_writeFloat_8 : decode cX3_writeFloat 8 = .ok (.invokevirtual 75, 3) := by decide +kernel
theorem dX3_writeFloat_11 : decode cX3_writeFloat 11 = .ok (.ireturn, 1) := by decide +kernel
set_option maxRecDepth 20000 in
theorem ggX3_writeDouble_X3_write : GoodIn wsX3_writeDouble wsX3_write := goodIn_r _ [5, 6, 7, 8, 9, 10, 11, 12, 13, 4, 14, 15, 16, 17, 18, 19, 20, 21, 22, 23, 24, 25, 26, 27, 28, 29, 30, 31, 32, 33, 34, 35, 36, 37, 38, 39, 40, 41, 42, 43, 44, 45, 46, 47, 48, 49] (by decide +kernel) (by decide +kernel)
set_option maxRecDepth 20000 in
theorem gX3_writeDouble_X3_write : GoodIn wsX3_writeDouble (wsV RX3 75 RX3 yX3_write wsX3_write) := goodIn_app (goodIn_of _ (by decide +kernel)) ggX3_writeDouble_X3_write
theorem dX3_writeDouble_0 : decode cX3_writeDouble 0 = .ok (.aload_n 0, 1) := by decide +kernel
theorem dX3_writeDouble_1 : decode cX3_writeDouble 1 = .ok (.iload_n 1, 1) := by decide +kernel
theorem dX3_writeDouble_2 : decode cX3_writeDouble 2 = .ok (.iload_n 2, 1) := by decide +kernel
theorem dX3_writeDouble_3 : decode cX3_writeDouble 3 = .ok (.bipush 8, 2) := by decide +kernel
theorem dX3_writeDouble_5 : decode cX3_writeDouble 5 = .ok (.lconst 0, 1) := by decide +kernel
theorem dX3_writeDouble_6 : decode cX3_writeDouble 6 = .ok (.dload_n 3, 1) := by decide +kernel
theorem dX3_writeDouble_7 : decode cX3_writeDouble 7 = .ok (.invokevirtual 75, 3) := by decide +kernel
theorem dX3_writeDouble_10 : decode cX3_writeDouble 10 = .ok (.ireturn, 1) := by decide +kernel
set_option maxRecDepth 20000 in
theorem ggX3_writeAny_X3_isColumn : GoodIn wsX3_writeAny wsX3_isColumn := goodIn_r _ [6, 7, 79, 80, 81, 82, 83, 84, 85, 86] (by decide +kernel) (by decide +kernel)
set_option maxRecDepth 20000 in
theorem gX3_writeAny_X3_isColumn : GoodIn wsX3_writeAny (wsV RX3 52 RX3 yX3_isColumn wsX3_isColumn) := goodIn_app (goodIn_of _ (by decide +kernel)) ggX3_writeAny_X3_isColumn
set_option maxRecDepth 20000 in
theorem ggX3_writeAny_X3_fail : GoodIn wsX3_writeAny wsX3_fail := goodIn_r _ [11, 1, 79, 80, 81, 82, 83, 84, 85, 86] (by decide +kernel) (by decide +kernel)
set_option maxRecDepth 20000 in
theorem gX3_writeAny_X3_fail : GoodIn wsX3_writeAny (wsV RX3 45 RX3 yX3_fail wsX3_fail) := goodIn_app (goodIn_of _ (by decide +kernel)) ggX3_writeAny_X3_fail
set_option maxRecDepth 20000 in
theorem ggX3_writeAny_X3_writeBoolean : GoodIn wsX3_writeAny wsX3_writeBoolean := goodIn_r _ [15, 16, 17, 18, 5, 19, 1, 20, 21, 22, 23, 2, 3, 4, 6, 7, 24, 25, 26, 27, 28, 29, 30, 31, 32, 33, 34, 35, 36, 37, 38, 39, 40, 41, 42, 43, 44, 45, 46, 47, 48, 49, 79, 80, 81, 82, 83, 84, 85, 86] (by decide +kernel) (by decide +kernel)
set_option maxRecDepth 20000 in
theorem gX3_writeAny_X3_writeBoolean : GoodIn wsX3_writeAny (wsV RX3 80 RX3 yX3_writeBoolean wsX3_writeBoolean) := goodIn_app (goodIn_of _ (by decide +kernel)) ggX3_writeAny_X3_writeBoolean
set_option maxRecDepth 20000 in
theorem ggX3_writeAny_X3_writeByte : GoodIn wsX3_writeAny wsX3_writeByte := goodIn_r _ [53, 16, 17, 18, 5, 19, 1, 20, 21, 22, 23, 2, 3, 4, 6, 7, 24, 25, 26, 27, 28, 29, 30, 31, 32, 33, 34, 35, 36, 37, 38, 39, 40, 41, 42, 43, 44, 45, 46, 47, 48, 49, 79, 80, 81, 82, 83, 84, 85, 86] (by decide +kernel) (by decide +kernel)
set_option maxRecDepth 20000 in
theorem gX3_writeAny_X3_writeByte : GoodIn wsX3_writeAny (wsV RX3 84 RX3 yX3_writeByte wsX3_writeByte) := goodIn_app (goodIn_of _ (by decide +kernel)) ggX3_writeAny_X3_writeByte
set_option maxRecDepth 20000 in
theorem ggX3_writeAny_X3_writeChar : GoodIn wsX3_writeAny wsX3_writeChar := goodIn_r _ [57, 58, 16, 17, 18, 5, 19, 1, 20, 21, 22, 23, 2, 3, 4, 6, 7, 24, 25, 26, 27, 28, 29, 30, 31, 32, 33, 34, 35, 36, 37, 38, 39, 40, 41, 42, 43, 44, 45, 46, 47, 48, 49, 79, 80, 81, 82, 83, 84, 85, 86] (by decide +kernel) (by decide +kernel)
set_option maxRecDepth 20000 in
theorem gX3_writeAny_X3_writeChar : GoodIn wsX3_writeAny (wsV RX3 88 RX3 yX3_writeChar wsX3_writeChar) := goodIn_app (goodIn_of _ (by decide +kernel)) ggX3_writeAny_X3_writeChar
set_option maxRecDepth 20000 in
theorem ggX3_writeAny_X3_writeShort : GoodIn wsX3_writeAny wsX3_writeShort := goodIn_r _ [62, 16, 17, 18, 5, 19, 1, 20, 21, 22, 23, 2, 3, 4, 6, 7, 24, 25, 26, 27, 28, 29, 30, 31, 32, 33, 34, 35, 36, 37, 38, 39, 40, 41, 42, 43, 44, 45, 46, 47, 48, 49, 79, 80, 81, 82, 83, 84, 85, 86] (by decide +kernel) (by decide +kernel)
set_option maxRecDepth 20000 in
theorem gX3_writeAny_X3_writeShort : GoodIn wsX3_writeAny (wsV RX3 91 RX3 yX3_writeShort wsX3_writeShort) := goodIn_app (goodIn_of _ (by decide +kernel)) ggX3_writeAny_X3_writeShort
set_option maxRecDepth 20000 in
theorem ggX3_writeAny_X3_writeInt : GoodIn wsX3_writeAny wsX3_writeInt := goodIn_r _ [66, 16, 17, 18, 5, 19, 1, 20, 21, 22, 23, 2, 3, 4, 6, 7, 24, 25, 26, 27, 28, 29, 30, 31, 32, 33, 34, 35, 36, 37, 38, 39, 40, 41, 42, 43, 44, 45, 46, 47, 48, 49, 79, 80, 81, 82, 83, 84, 85, 86] (by decide +kernel) (by decide +kernel)
set_option maxRecDepth 20000 in
theorem gX3_writeAny_X3_writeInt : GoodIn wsX3_writeAny (wsV RX3 94 RX3 yX3_writeInt wsX3_writeInt) := goodIn_app (goodIn_of _ (by decide +kernel)) ggX3_writeAny_X3_writeInt
set_option maxRecDepth 20000 in
theorem ggX3_writeAny_X3_writeLong : GoodIn wsX3_writeAny wsX3_writeLong := goodIn_r _ [70, 16, 17, 18, 5, 19, 1, 20, 21, 22, 23, 2, 3, 4, 6, 7, 24, 25, 26, 27, 28, 29, 30, 31, 32, 33, 34, 35, 36, 37, 38, 39, 40, 41, 42, 43, 44, 45, 46, 47, 48, 49, 79, 80, 81, 82, 83, 84, 85, 86] (by decide +kernel) (by decide +kernel)
set_option maxRecDepth 20000 in
theorem gX3_writeAny_X3_writeLong : GoodIn wsX3_writeAny (wsV RX3 97 RX3 yX3_writeLong wsX3_writeLong) := goodIn_app (goodIn_of _ (by decide +kernel)) ggX3_writeAny_X3_writeLong
set_option maxRecDepth 20000 in
theorem ggX3_writeAny_X3_writeFloat : GoodIn wsX3_writeAny wsX3_writeFloat := goodIn_r _ [74, 16, 17, 18, 5, 19, 1, 20, 21, 22, 23, 2, 3, 4, 6, 7, 24, 25, 26, 27, 28, 29, 30, 31, 32, 33, 34, 35, 36, 37, 38, 39, 40, 41, 42, 43, 44, 45, 46, 47, 48, 49, 79, 80, 81, 82, 83, 84, 85, 86] (by decide +kernel) (by decide +kernel)
set_option maxRecDepth 20000 in
theorem gX3_writeAny_X3_writeFloat : GoodIn wsX3_writeAny (wsV RX3 101 RX3 yX3_writeFloat wsX3_writeFloat) := goodIn_app (goodIn_of _ (by decide +kernel)) ggX3_writeAny_X3_writeFloat
set_option maxRecDepth 20000 in
theorem ggX3_writeAny_X3_writeDouble : GoodIn wsX3_writeAny wsX3_writeDouble := goodIn_r _ [78, 16, 17, 18, 5, 19, 1, 20, 21, 22, 23, 2, 3, 4, 6, 7, 24, 25, 26, 27, 28, 29, 30, 31, 32, 33, 34, 35, 36, 37, 38, 39, 40, 41, 42, 43, 44, 45, 46, 47, 48, 49, 79, 80, 81, 82, 83, 84, 85, 86] (by decide +kernel) (by decide +kernel)
set_option maxRecDepth 20000 in
theorem gX3_writeAny_X3_writeDouble : GoodIn wsX3_writeAny (wsV RX3 105 RX3 yX3_writeDouble wsX3_writeDouble) := goodIn_app (goodIn_of _ (by decide +kernel)) ggX3_writeAny_X3_writeDouble
theorem dX3_writeAny_0 : decode cX3_writeAny 0 = .ok (.aload_n 0, 1) := by decide +kernel
theorem dX3_writeAny_1 : decode cX3_writeAny 1 = .ok (.iconst 0, 1) := by decide +kernel
theorem dX3_writeAny_2 : decode cX3_writeAny 2 = .ok (.putfield 27, 3) := by decide +kernel
theorem dX3_writeAny_5 : decode cX3_writeAny 5 = .ok (.aload_n 0, 1) := by decide +kernel
theorem dX3_writeAny_6 : decode cX3_writeAny 6 = .ok (.iload_n 1, 1) := by decide +kernel
theorem dX3_writeAny_7 : decode cX3_writeAny 7 = .ok (.invokevirtual 52, 3) := by decide +kernel
theorem dX3_writeAny_10 : decode cX3_writeAny 10 = .ok (.ifCond .ne 9, 3) := by decide +kernel
theorem dX3_writeAny_13 : decode cX3_writeAny 13 = .ok (.aload_n 0, 1) := by decide +kernel
theorem dX3_writeAny_14 : decode cX3_writeAny 14 = .ok (.iconst 1, 1) := by decide +kernel
theorem dX3_writeAny_15 : decode cX3_writeAny 15 = .ok (.invokevirtual 45, 3) := by decide +kernel
theorem dX3_writeAny_18 : decode cX3_writeAny 18 = .ok (.ireturn, 1) := by decide +kernel
theorem dX3_writeAny_19 : decode cX3_writeAny 19 = .ok (.iload_n 3, 1) := by decide +kernel
theorem dX3_writeAny_20 : decode cX3_writeAny 20 = .ok (.tableswitch 131 1 8 #[48, 65, 74, 83, 92, 101, 111, 121], 48) := by decide +kernel
theorem dX3_writeAny_68 : decode cX3_writeAny 68 = .ok (.aload_n 0, 1) := by decide +kernel
theorem dX3_writeAny_69 : decode cX3_writeAny 69 = .ok (.iload_n 1, 1) := by decide +kernel
theorem dX3_writeAny_70 : decode cX3_writeAny 70 = .ok (.iload_n 2, 1) := by decide +kernel
theorem dX3_writeAny_71 : decode cX3_writeAny 71 = .ok (.iload 4, 2) := by decide +kernel
theorem dX3_writeAny_73 : decode cX3_writeAny 73 = .ok (.ifCond .eq 7, 3) := by decide +kernel
theorem dX3_writeAny_76 : decode cX3_writeAny 76 = .ok (.iconst 1, 1) := by decide +kernel
theorem dX3_writeAny_77 : decode cX3_writeAny 77 = .ok (.goto 4, 3) := by decide +kernel
theorem dX3_writeAny_80 : decode cX3_writeAny 80 = .ok (.iconst 0, 1) := by decide +kernel
theorem dX3_writeAny_81 : decode cX3_writeAny 81 = .ok (.invokevirtual 80, 3) := by decide +kernel
theorem dX3_writeAny_84 : decode cX3_writeAny 84 = .ok (.ireturn, 1) := by decide +kernel
theorem dX3_writeAny_85 : decode cX3_writeAny 85 = .ok (.aload_n 0, 1) := by decide +kernel
theorem dX3_writeAny_86 : decode cX3_writeAny 86 = .ok (.iload_n 1, 1) := by decide +kernel
theorem dX3_writeAny_87 : decode cX3_writeAny 87 = .ok (.iload_n 2, 1) := by decide +kernel
theorem dX3_writeAny_88 : decode cX3_writeAny 88 = .ok (.iload 4, 2) := by decide +kernel
theorem dX3_writeAny_90 : decode cX3_writeAny 90 = .ok (.invokevirtual 84, 3) := by decide +kernel
theorem dX3_writeAny_93 : decode cX3_writeAny 93 = .ok (.ireturn, 1) := by decide +kernel
theorem dX3_writeAny_94 : decode cX3_writeAny 94 = .ok (.aload_n 0, 1) := by decide +kernel
theorem dX3_writeAny_95 : decode cX3_writeAny 95 = .ok (.iload_n 1, 1) := by decide +kernel
theorem dX3_writeAny_96 : decode cX3_writeAny 96 = .ok (.iload_n 2, 1) := by decide +kernel
theorem dX3_writeAny_97 : decode cX3_writeAny 97 = .ok (.iload 4, 2) := by decide +kernel
theorem dX3_writeAny_99 : decode cX3_writeAny 99 = .ok (.invokevirtual 88, 3) := by decide +kernel
theorem dX3_writeAny_102 : decode cX3_writeAny 102 = .ok (.ireturn, 1) := by decide +kernel
theorem dX3_writeAny_103 : decode cX3_writeAny 103 = .ok (.aload_n 0, 1) := by decide +kernel
theorem dX3_writeAny_104 : decode cX3_writeAny 104 = .ok (.iload_n 1, 1) := by decide +kernel
theorem dX3_writeAny_105 : decode cX3_writeAny 105 = .ok (.iload_n 2, 1) := by decide +kernel
theorem dX3_writeAny_106 : decode cX3_writeAny 106 = .ok (.iload 4, 2) := by decide +kernel
theorem dX3_writeAny_108 : decode cX3_writeAny 108 = .ok (.invokevirtual 91, 3) := by decide +kernel
theorem dX3_writeAny_111 : decode cX3_writeAny 111 = .ok (.ireturn, 1) := by decide +kernel
theorem dX3_writeAny_112 : decode cX3_writeAny 112 = .ok (.aload_n 0, 1) := by decide +kernel
theorem dX3_writeAny_113 : decode cX3_writeAny 113 = .ok (.iload_n 1, 1) := by decide +kernel
theorem dX3_writeAny_114 : decode cX3_writeAny 114 = .ok (.iload_n 2, 1) := by decide +kernel
theorem dX3_writeAny_115 : decode cX3_writeAny 115 = .ok (.iload 4, 2) := by decide +kernel
theorem dX3_writeAny_117 : decode cX3_writeAny 117 = .ok (.invokevirtual 94, 3) := by decide +kernel
theorem dX3_writeAny_120 : decode cX3_writeAny 120 = .ok (.ireturn, 1) := by decide +kernel
theorem dX3_writeAny_121 : decode cX3_writeAny 121 = .ok (.aload_n 0, 1) := by decide +kernel
theorem dX3_writeAny_122 : decode cX3_writeAny 122 = .ok (.iload_n 1, 1) := by decide +kernel
theorem dX3_writeAny_123 : decode cX3_writeAny 123 = .ok (.iload_n 2, 1) := by decide +kernel
theorem dX3_writeAny_124 : decode cX3_writeAny 124 = .ok (.iload 4, 2) := by decide +kernel
theorem dX3_writeAny_126 : decode cX3_writeAny 126 = .ok (.i2l, 1) := by decide +kernel
theorem dX3_writeAny_127 : decode cX3_writeAny 127 = .ok (.invokevirtual 97, 3) := by decide +kernel
theorem dX3_writeAny_130 : decode cX3_writeAny 130 = .ok (.ireturn, 1) := by decide +kernel
theorem dX3_writeAny_131 : decode cX3_writeAny 131 = .ok (.aload_n 0, 1) := by decide +kernel
theorem dX3_writeAny_132 : decode cX3_writeAny 132 = .ok (.iload_n 1, 1) := by decide +kernel
theorem dX3_writeAny_133 : decode cX3_writeAny 133 = .ok (.iload_n 2, 1) := by decide +kernel
theorem dX3_writeAny_134 : decode cX3_writeAny 134 = .ok (.iload 4, 2) := by decide +kernel
theorem dX3_writeAny_136 : decode cX3_writeAny 136 = .ok (.i2f, 1) := by decide +kernel
theorem dX3_writeAny_137 : decode cX3_writeAny 137 = .ok (.invokevirtual 101, 3) := by decide +kernel
theorem dX3_writeAny_140 : decode cX3_writeAny 140 = .ok (.ireturn, 1) := by decide +kernel
theorem dX3_writeAny_141 : decode cX3_writeAny 141 = .ok (.aload_n 0, 1) := by decide +kernel
theorem dX3_writeAny_142 : decode cX3_writeAny 142 = .ok (.iload_n 1, 1) := by decide +kernel
theorem dX3_writeAny_143 : decode cX3_writeAny 143 = .ok (.iload_n 2, 1) := by decide +kernel
theorem dX3_writeAny_144 : decode cX3_writeAny 144 = .ok (.iload 4, 2) := by decide +kernel
theorem dX3_writeAny_146 : decode cX3_writeAny 146 = .ok (.i2d, 1) := by decide +kernel
theorem dX3_writeAny_147 : decode cX3_writeAny 147 = .ok (.invokevirtual 105, 3) := by decide +kernel
theorem dX3_writeAny_150 : decode cX3_writeAny 150 = .ok (.ireturn, 1) := by decide +kernel
theorem dX3_writeAny_151 : decode cX3_writeAny 151 = .ok (.aload_n 0, 1) := by decide +kernel
theorem dX3_writeAny_152 : decode cX3_writeAny 152 = .ok (.iconst 2, 1) := by decide +kernel
theorem dX3_writeAny_153 : decode cX3_writeAny 153 = .ok (.invokevirtual 45, 3) := by decide +kernel
theorem dX3_writeAny_156 : decode cX3_writeAny 156 = .ok (.ireturn, 1) := by decide +kernel
set_option maxRecDepth 20000 in
theorem ggX3_copy_X3_isColumn : GoodIn wsX3_copy wsX3_isColumn := goodIn_r _ [11, 12, 25, 26, 27, 28, 29, 30, 31, 32] (by decide +kernel) (by decide +kernel)
set_option maxRecDepth 20000 in
theorem gX3_copy_X3_isColumn : GoodIn wsX3_copy (wsV RX3 52 RX3 yX3_isColumn wsX3_isColumn) := goodIn_app (goodIn_of _ (by decide +kernel)) ggX3_copy_X3_isColumn
set_option maxRecDepth 20000 in
theorem ggX3_copy_X3_fail : GoodIn wsX3_copy wsX3_fail := goodIn_r _ [16, 1, 25, 26, 27, 28, 29, 30, 31, 32] (by decide +kernel) (by decide +kernel)
set_option maxRecDepth 20000 in
theorem gX3_copy_X3_fail : GoodIn wsX3_copy (wsV RX3 45 RX3 yX3_fail wsX3_fail) := goodIn_app (goodIn_of _ (by decide +kernel)) ggX3_copy_X3_fail
set_option maxRecDepth 20000 in
theorem ggX3_copy_X3_note : GoodIn wsX3_copy wsX3_note := goodIn_r _ [20, 4, 21, 25, 26, 27, 28, 29, 30, 31, 32] (by decide +kernel) (by decide +kernel)
set_option maxRecDepth 20000 in
theorem gX3_copy_X3_note : GoodIn wsX3_copy (wsV RX3 55 RX3 yX3_note wsX3_note) := goodIn_app (goodIn_of _ (by decide +kernel)) ggX3_copy_X3_note
set_option maxRecDepth 20000 in
theorem ggX3_copy_X3_at : GoodIn wsX3_copy wsX3_at := goodIn_r _ [24] (by decide +kernel) (by decide +kernel)
set_option maxRecDepth 20000 in
theorem gX3_copy_X3_at : GoodIn wsX3_copy (va_wsS RX3 48 yX3_at wsX3_at) := goodIn_app (goodIn_of _ (by decide +kernel)) ggX3_copy_X3_at
theorem dX3_copy_0 : decode cX3_copy 0 = .ok (.aload_n 0, 1) := by decide +kernel
theorem dX3_copy_1 : decode cX3_copy 1 = .ok (.iconst 0, 1) := by decide +kernel
theorem dX3_copy_2 : decode cX3_copy 2 = .ok (.putfield 27, 3) := by decide +kernel
theorem dX3_copy_5 : decode cX3_copy 5 = .ok (.aload_n 0, 1) := by decide +kernel
theorem dX3_copy_6 : decode cX3_copy 6 = .ok (.iload_n 1, 1) := by decide +kernel
theorem dX3_copy_7 : decode cX3_copy 7 = .ok (.invokevirtual 52, 3) := by decide +kernel
theorem dX3_copy_10 : decode cX3_copy 10 = .ok (.ifCond .eq 11, 3) := by decide +kernel
theorem dX3_copy_13 : decode cX3_copy 13 = .ok (.aload_n 0, 1) := by decide +kernel
theorem dX3_copy_14 : decode cX3_copy 14 = .ok (.iload_n 3, 1) := by decide +kernel
theorem dX3_copy_15 : decode cX3_copy 15 = .ok (.invokevirtual 52, 3) := by decide +kernel
theorem dX3_copy_18 : decode cX3_copy 18 = .ok (.ifCond .ne 9, 3) := by decide +kernel
theorem dX3_copy_21 : decode cX3_copy 21 = .ok (.aload_n 0, 1) := by decide +kernel
theorem dX3_copy_22 : decode cX3_copy 22 = .ok (.iconst 1, 1) := by decide +kernel
theorem dX3_copy_23 : decode cX3_copy 23 = .ok (.invokevirtual 45, 3) := by decide +kernel
theorem dX3_copy_26 : decode cX3_copy 26 = .ok (.ireturn, 1) := by decide +kernel
theorem dX3_copy_27 : decode cX3_copy 27 = .ok (.aload_n 0, 1) := by decide +kernel
theorem dX3_copy_28 : decode cX3_copy 28 = .ok (.getfield 9, 3) := by decide +kernel
theorem dX3_copy_31 : decode cX3_copy 31 = .ok (.iload_n 1, 1) := by decide +kernel
theorem dX3_copy_32 : decode cX3_copy 32 = .ok (.iaload, 1) := by decide +kernel
theorem dX3_copy_33 : decode cX3_copy 33 = .ok (.ifCond .eq 12, 3) := by decide +kernel
theorem dX3_copy_36 : decode cX3_copy 36 = .ok (.aload_n 0, 1) := by decide +kernel
theorem dX3_copy_37 : decode cX3_copy 37 = .ok (.getfield 9, 3) := by decide +kernel
theorem dX3_copy_40 : decode cX3_copy 40 = .ok (.iload_n 3, 1) := by decide +kernel
theorem dX3_copy_41 : decode cX3_copy 41 = .ok (.iaload, 1) := by decide +kernel
theorem dX3_copy_42 : decode cX3_copy 42 = .ok (.ifCond .ne 7, 3) := by decide +kernel
theorem dX3_copy_45 : decode cX3_copy 45 = .ok (.iconst 1, 1) := by decide +kernel
theorem dX3_copy_46 : decode cX3_copy 46 = .ok (.goto 4, 3) := by decide +kernel
theorem dX3_copy_49 : decode cX3_copy 49 = .ok (.iconst 0, 1) := by decide +kernel
theorem dX3_copy_50 : decode cX3_copy 50 = .ok (.istore 6, 2) := by decide +kernel
theorem dX3_copy_52 : decode cX3_copy 52 = .ok (.aload_n 0, 1) := by decide +kernel
theorem dX3_copy_53 : decode cX3_copy 53 = .ok (.getfield 9, 3) := by decide +kernel
theorem dX3_copy_56 : decode cX3_copy 56 = .ok (.iload_n 1, 1) := by decide +kernel
theorem dX3_copy_57 : decode cX3_copy 57 = .ok (.iaload, 1) := by decide +kernel
theorem dX3_copy_58 : decode cX3_copy 58 = .ok (.aload_n 0, 1) := by decide +kernel
theorem dX3_copy_59 : decode cX3_copy 59 = .ok (.getfield 9, 3) := by decide +kernel
theorem dX3_copy_62 : decode cX3_copy 62 = .ok (.iload_n 3, 1) := by decide +kernel
theorem dX3_copy_63 : decode cX3_copy 63 = .ok (.iaload, 1) := by decide +kernel
theorem dX3_copy_64 : decode cX3_copy 64 = .ok (.if_icmp .ne 18, 3) := by decide +kernel
theorem dX3_copy_67 : decode cX3_copy 67 = .ok (.aload_n 0, 1) := by decide +kernel
theorem dX3_copy_68 : decode cX3_copy 68 = .ok (.getfield 9, 3) := by decide +kernel
theorem dX3_copy_71 : decode cX3_copy 71 = .ok (.iload_n 1, 1) := by decide +kernel
theorem dX3_copy_72 : decode cX3_copy 72 = .ok (.iaload, 1) := by decide +kernel
theorem dX3_copy_73 : decode cX3_copy 73 = .ok (.bipush 9, 2) := by decide +kernel
theorem dX3_copy_75 : decode cX3_copy 75 = .ok (.if_icmp .eq 7, 3) := by decide +kernel
theorem dX3_copy_78 : decode cX3_copy 78 = .ok (.iconst 1, 1) := by decide +kernel
theorem dX3_copy_79 : decode cX3_copy 79 = .ok (.goto 4, 3) := by decide +kernel
theorem dX3_copy_82 : decode cX3_copy 82 = .ok (.iconst 0, 1) := by decide +kernel
theorem dX3_copy_83 : decode cX3_copy 83 = .ok (.istore 7, 2) := by decide +kernel
theorem dX3_copy_85 : decode cX3_copy 85 = .ok (.iload_n 2, 1) := by decide +kernel
theorem dX3_copy_86 : decode cX3_copy 86 = .ok (.ifCond .lt 52, 3) := by decide +kernel
theorem dX3_copy_89 : decode cX3_copy 89 = .ok (.iload 4, 2) := by decide +kernel
theorem dX3_copy_91 : decode cX3_copy 91 = .ok (.ifCond .lt 47, 3) := by decide +kernel
theorem dX3_copy_94 : decode cX3_copy 94 = .ok (.iload 5, 2) := by decide +kernel
theorem dX3_copy_96 : decode cX3_copy 96 = .ok (.ifCond .lt 42, 3) := by decide +kernel
theorem dX3_copy_99 : decode cX3_copy 99 = .ok (.iload_n 2, 1) := by decide +kernel
theorem dX3_copy_100 : decode cX3_copy 100 = .ok (.i2l, 1) := by decide +kernel
theorem dX3_copy_101 : decode cX3_copy 101 = .ok (.iload 5, 2) := by decide +kernel
theorem dX3_copy_103 : decode cX3_copy 103 = .ok (.i2l, 1) := by decide +kernel
theorem dX3_copy_104 : decode cX3_copy 104 = .ok (.ladd, 1) := by decide +kernel
theorem dX3_copy_105 : decode cX3_copy 105 = .ok (.aload_n 0, 1) := by decide +kernel
theorem dX3_copy_106 : decode cX3_copy 106 = .ok (.getfield 13, 3) := by decide +kernel
theorem dX3_copy_109 : decode cX3_copy 109 = .ok (.iload_n 1, 1) := by decide +kernel
theorem dX3_copy_110 : decode cX3_copy 110 = .ok (.iaload, 1) := by decide +kernel
theorem dX3_copy_111 : decode cX3_copy 111 = .ok (.i2l, 1) := by decide +kernel
theorem dX3_copy_112 : decode cX3_copy 112 = .ok (.lcmp, 1) := by decide +kernel
theorem dX3_copy_113 : decode cX3_copy 113 = .ok (.ifCond .gt 25, 3) := by decide +kernel
theorem dX3_copy_116 : decode cX3_copy 116 = .ok (.iload 4, 2) := by decide +kernel
theorem dX3_copy_118 : decode cX3_copy 118 = .ok (.i2l, 1) := by decide +kernel
theorem dX3_copy_119 : decode cX3_copy 119 = .ok (.iload 5, 2) := by decide +kernel
theorem dX3_copy_121 : decode cX3_copy 121 = .ok (.i2l, 1) := by decide +kernel
theorem dX3_copy_122 : decode cX3_copy 122 = .ok (.ladd, 1) := by decide +kernel
theorem dX3_copy_123 : decode cX3_copy 123 = .ok (.aload_n 0, 1) := by decide +kernel
theorem dX3_copy_124 : decode cX3_copy 124 = .ok (.getfield 13, 3) := by decide +kernel
theorem dX3_copy_127 : decode cX3_copy 127 = .ok (.iload_n 3, 1) := by decide +kernel
theorem dX3_copy_128 : decode cX3_copy 128 = .ok (.iaload, 1) := by decide +kernel
theorem dX3_copy_129 : decode cX3_copy 129 = .ok (.i2l, 1) := by decide +kernel
theorem dX3_copy_130 : decode cX3_copy 130 = .ok (.lcmp, 1) := by decide +kernel
theorem dX3_copy_131 : decode cX3_copy 131 = .ok (.ifCond .gt 7, 3) := by decide +kernel
theorem dX3_copy_134 : decode cX3_copy 134 = .ok (.iconst 1, 1) := by decide +kernel
theorem dX3_copy_135 : decode cX3_copy 135 = .ok (.goto 4, 3) := by decide +kernel
theorem dX3_copy_138 : decode cX3_copy 138 = .ok (.iconst 0, 1) := by decide +kernel
theorem dX3_copy_139 : decode cX3_copy 139 = .ok (.istore 8, 2) := by decide +kernel
theorem dX3_copy_141 : decode cX3_copy 141 = .ok (.aload_n 0, 1) := by decide +kernel
theorem dX3_copy_142 : decode cX3_copy 142 = .ok (.iload 6, 2) := by decide +kernel
theorem dX3_copy_144 : decode cX3_copy 144 = .ok (.ifCond .eq 7, 3) := by decide +kernel
theorem dX3_copy_147 : decode cX3_copy 147 = .ok (.iconst 1, 1) := by decide +kernel
theorem dX3_copy_148 : decode cX3_copy 148 = .ok (.goto 22, 3) := by decide +kernel
theorem dX3_copy_151 : decode cX3_copy 151 = .ok (.iload 7, 2) := by decide +kernel
theorem dX3_copy_153 : decode cX3_copy 153 = .ok (.ifCond .ne 7, 3) := by decide +kernel
theorem dX3_copy_156 : decode cX3_copy 156 = .ok (.iconst 5, 1) := by decide +kernel
theorem dX3_copy_157 : decode cX3_copy 157 = .ok (.goto 13, 3) := by decide +kernel
theorem dX3_copy_160 : decode cX3_copy 160 = .ok (.iload 8, 2) := by decide +kernel
theorem dX3_copy_162 : decode cX3_copy 162 = .ok (.ifCond .ne 7, 3) := by decide +kernel
theorem dX3_copy_165 : decode cX3_copy 165 = .ok (.iconst 3, 1) := by decide +kernel
theorem dX3_copy_166 : decode cX3_copy 166 = .ok (.goto 4, 3) := by decide +kernel
theorem dX3_copy_169 : decode cX3_copy 169 = .ok (.iconst 0, 1) := by decide +kernel
theorem dX3_copy_170 : decode cX3_copy 170 = .ok (.invokevirtual 55, 3) := by decide +kernel
theorem dX3_copy_173 : decode cX3_copy 173 = .ok (.ifCond .ne 8, 3) := by decide +kernel
theorem dX3_copy_176 : decode cX3_copy 176 = .ok (.aload_n 0, 1) := by decide +kernel
theorem dX3_copy_177 : decode cX3_copy 177 = .ok (.getfield 38, 3) := by decide +kernel
theorem dX3_copy_180 : decode cX3_copy 180 = .ok (.ireturn, 1) := by decide +kernel
theorem dX3_copy_181 : decode cX3_copy 181 = .ok (.iload_n 2, 1) := by decide +kernel
theorem dX3_copy_182 : decode cX3_copy 182 = .ok (.iload 4, 2) := by decide +kernel
theorem dX3_copy_184 : decode cX3_copy 184 = .ok (.if_icmp .ge 7, 3) := by decide +kernel
theorem dX3_copy_187 : decode cX3_copy 187 = .ok (.iconst 1, 1) := by decide +kernel
theorem dX3_copy_188 : decode cX3_copy 188 = .ok (.goto 4, 3) := by decide +kernel
theorem dX3_copy_191 : decode cX3_copy 191 = .ok (.iconst 0, 1) := by decide +kernel
theorem dX3_copy_192 : decode cX3_copy 192 = .ok (.istore 9, 2) := by decide +kernel
theorem dX3_copy_194 : decode cX3_copy 194 = .ok (.iconst 0, 1) := by decide +kernel
theorem dX3_copy_195 : decode cX3_copy 195 = .ok (.istore 10, 2) := by decide +kernel
theorem dX3_copy_197 : decode cX3_copy 197 = .ok (.iload 10, 2) := by decide +kernel
theorem dX3_copy_199 : decode cX3_copy 199 = .ok (.iload 5, 2) := by decide +kernel
theorem dX3_copy_201 : decode cX3_copy 201 = .ok (.if_icmp .ge 82, 3) := by decide +kernel
theorem dX3_copy_204 : decode cX3_copy 204 = .ok (.iload 9, 2) := by decide +kernel
theorem dX3_copy_206 : decode cX3_copy 206 = .ok (.ifCond .eq 13, 3) := by decide +kernel
theorem dX3_copy_209 : decode cX3_copy 209 = .ok (.iload 5, 2) := by decide +kernel
theorem dX3_copy_211 : decode cX3_copy 211 = .ok (.iconst 1, 1) := by decide +kernel
theorem dX3_copy_212 : decode cX3_copy 212 = .ok (.isub, 1) := by decide +kernel
theorem dX3_copy_213 : decode cX3_copy 213 = .ok (.iload 10, 2) := by decide +kernel
theorem dX3_copy_215 : decode cX3_copy 215 = .ok (.isub, 1) := by decide +kernel
theorem dX3_copy_216 : decode cX3_copy 216 = .ok (.goto 5, 3) := by decide +kernel
theorem dX3_copy_219 : decode cX3_copy 219 = .ok (.iload 10, 2) := by decide +kernel
theorem dX3_copy_221 : decode cX3_copy 221 = .ok (.istore 11, 2) := by decide +kernel
theorem dX3_copy_223 : decode cX3_copy 223 = .ok (.aload_n 0, 1) := by decide +kernel
theorem dX3_copy_224 : decode cX3_copy 224 = .ok (.getfield 16, 3) := by decide +kernel
theorem dX3_copy_227 : decode cX3_copy 227 = .ok (.iload_n 3, 1) := by decide +kernel
theorem dX3_copy_228 : decode cX3_copy 228 = .ok (.iload 4, 2) := by decide +kernel
theorem dX3_copy_230 : decode cX3_copy 230 = .ok (.iload 11, 2) := by decide +kernel
theorem dX3_copy_232 : decode cX3_copy 232 = .ok (.iadd, 1) := by decide +kernel
theorem dX3_copy_233 : decode cX3_copy 233 = .ok (.invokestatic 48, 3) := by decide +kernel
theorem dX3_copy_236 : decode cX3_copy 236 = .ok (.aload_n 0, 1) := by decide +kernel
theorem dX3_copy_237 : decode cX3_copy 237 = .ok (.getfield 16, 3) := by decide +kernel
theorem dX3_copy_240 : decode cX3_copy 240 = .ok (.iload_n 1, 1) := by decide +kernel
theorem dX3_copy_241 : decode cX3_copy 241 = .ok (.iload_n 2, 1) := by decide +kernel
theorem dX3_copy_242 : decode cX3_copy 242 = .ok (.iload 11, 2) := by decide +kernel
theorem dX3_copy_244 : decode cX3_copy 244 = .ok (.iadd, 1) := by decide +kernel
theorem dX3_copy_245 : decode cX3_copy 245 = .ok (.invokestatic 48, 3) := by decide +kernel
theorem dX3_copy_248 : decode cX3_copy 248 = .ok (.laload, 1) := by decide +kernel
theorem dX3_copy_249 : decode cX3_copy 249 = .ok (.lastore, 1) := by decide +kernel
theorem dX3_copy_250 : decode cX3_copy 250 = .ok (.aload_n 0, 1) := by decide +kernel
theorem dX3_copy_251 : decode cX3_copy 251 = .ok (.getfield 20, 3) := by decide +kernel
theorem dX3_copy_254 : decode cX3_copy 254 = .ok (.iload_n 3, 1) := by decide +kernel
theorem dX3_copy_255 : decode cX3_copy 255 = .ok (.iload 4, 2) := by decide +kernel
theorem dX3_copy_257 : decode cX3_copy 257 = .ok (.iload 11, 2) := by decide +kernel
theorem dX3_copy_259 : decode cX3_copy 259 = .ok (.iadd, 1) := by decide +kernel
theorem dX3_copy_260 : decode cX3_copy 260 = .ok (.invokestatic 48, 3) := by decide +kernel
theorem dX3_copy_263 : decode cX3_copy 263 = .ok (.aload_n 0, 1) := by decide +kernel
theorem dX3_copy_264 : decode cX3_copy 264 = .ok (.getfield 20, 3) := by decide +kernel
theorem dX3_copy_267 : decode cX3_copy 267 = .ok (.iload_n 1, 1) := by decide +kernel
theorem dX3_copy_268 : decode cX3_copy 268 = .ok (.iload_n 2, 1) := by decide +kernel
theorem dX3_copy_269 : decode cX3_copy 269 = .ok (.iload 11, 2) := by decide +kernel
theorem dX3_copy_271 : decode cX3_copy 271 = .ok (.iadd, 1) := by decide +kernel
theorem dX3_copy_272 : decode cX3_copy 272 = .ok (.invokestatic 48, 3) := by decide +kernel
theorem dX3_copy_275 : decode cX3_copy 275 = .ok (.daload, 1) := by decide +kernel
theorem dX3_copy_276 : decode cX3_copy 276 = .ok (.dastore, 1) := by decide +kernel
theorem dX3_copy_277 : decode cX3_copy 277 = .ok (.iinc 10 1, 3) := by decide +kernel
theorem dX3_copy_280 : decode cX3_copy 280 = .ok (.goto (-83), 3) := by decide +kernel
theorem dX3_copy_283 : decode cX3_copy 283 = .ok (.aload_n 0, 1) := by decide +kernel
theorem dX3_copy_284 : decode cX3_copy 284 = .ok (.getfield 38, 3) := by decide +kernel
theorem dX3_copy_287 : decode cX3_copy 287 = .ok (.ireturn, 1) := by decide +kernel
set_option maxRecDepth 20000 in
theorem ggX3_total_X3_isColumn : GoodIn wsX3_total wsX3_isColumn := goodIn_r _ [7, 8, 32, 33, 34, 35, 36, 37, 38, 39] (by decide +kernel) (by decide +kernel)
set_option maxRecDepth 20000 in
theorem gX3_total_X3_isColumn : GoodIn wsX3_total (wsV RX3 52 RX3 yX3_isColumn wsX3_isColumn) := goodIn_app (goodIn_of _ (by decide +kernel)) ggX3_total_X3_isColumn
set_option maxRecDepth 20000 in
theorem ggX3_total_X3_codeOf : GoodIn wsX3_total wsX3_codeOf := goodIn_r _ [12, 13, 32, 33, 34, 35, 36, 37, 38, 39] (by decide +kernel) (by decide +kernel)
set_option maxRecDepth 20000 in
theorem gX3_total_X3_codeOf : GoodIn wsX3_total (wsV RX3 41 RX3 yX3_codeOf wsX3_codeOf) := goodIn_app (goodIn_of _ (by decide +kernel)) ggX3_total_X3_codeOf
set_option maxRecDepth 20000 in
theorem ggX3_total_X3_note : GoodIn wsX3_total wsX3_note := goodIn_r _ [17, 18, 19, 32, 33, 34, 35, 36, 37, 38, 39] (by decide +kernel) (by decide +kernel)
set_option maxRecDepth 20000 in
theorem gX3_total_X3_note : GoodIn wsX3_total (wsV RX3 55 RX3 yX3_note wsX3_note) := goodIn_app (goodIn_of _ (by decide +kernel)) ggX3_total_X3_note
set_option maxRecDepth 20000 in
theorem ggX3_total_X3_asDouble : GoodIn wsX3_total wsX3_asDouble := goodIn_r _ [23, 13, 24, 25, 26, 27, 6, 28, 29, 30, 31, 32, 33, 34, 35, 36, 37, 38, 39] (by decide +kernel) (by decide +kernel)
set_option maxRecDepth 20000 in
theorem gX3_total_X3_asDouble : GoodIn wsX3_total (wsV RX3 71 RX3 yX3_asDouble wsX3_asDouble) := goodIn_app (goodIn_of _ (by decide +kernel)) ggX3_total_X3_asDouble
theorem dX3_total_0 : decode cX3_total 0 = .ok (.aload_n 0, 1) := by decide +kernel
theorem dX3_total_1 : decode cX3_total 1 = .ok (.aload_n 0, 1) := by decide +kernel
theorem dX3_total_2 : decode cX3_total 2 = .ok (.iload_n 1, 1) := by decide +kernel
theorem dX3_total_3 : decode cX3_total 3 = .ok (.invokevirtual 52, 3) := by decide +kernel
theorem dX3_total_6 : decode cX3_total 6 = .ok (.ifCond .eq 7, 3) := by decide +kernel
theorem dX3_total_9 : decode cX3_total 9 = .ok (.iconst 0, 1) := by decide +kernel
theorem dX3_total_10 : decode cX3_total 10 = .ok (.goto 4, 3) := by decide +kernel
theorem dX3_total_13 : decode cX3_total 13 = .ok (.iconst 1, 1) := by decide +kernel
theorem dX3_total_14 : decode cX3_total 14 = .ok (.putfield 27, 3) := by decide +kernel
theorem dX3_total_17 : decode cX3_total 17 = .ok (.aload_n 0, 1) := by decide +kernel
theorem dX3_total_18 : decode cX3_total 18 = .ok (.getfield 27, 3) := by decide +kernel
theorem dX3_total_21 : decode cX3_total 21 = .ok (.ifCond .ne 15, 3) := by decide +kernel
theorem dX3_total_24 : decode cX3_total 24 = .ok (.aload_n 0, 1) := by decide +kernel
theorem dX3_total_25 : decode cX3_total 25 = .ok (.aload_n 0, 1) := by decide +kernel
theorem dX3_total_26 : decode cX3_total 26 = .ok (.iload_n 1, 1) := by decide +kernel
theorem dX3_total_27 : decode cX3_total 27 = .ok (.invokevirtual 41, 3) := by decide +kernel
theorem dX3_total_30 : decode cX3_total 30 = .ok (.invokevirtual 55, 3) := by decide +kernel
theorem dX3_total_33 : decode cX3_total 33 = .ok (.ifCond .ne 5, 3) := by decide +kernel
theorem dX3_total_36 : decode cX3_total 36 = .ok (.dconst 0, 1) := by decide +kernel
theorem dX3_total_37 : decode cX3_total 37 = .ok (.dreturn, 1) := by decide +kernel
theorem dX3_total_38 : decode cX3_total 38 = .ok (.dconst 0, 1) := by decide +kernel
theorem dX3_total_39 : decode cX3_total 39 = .ok (.dstore_n 2, 1) := by decide +kernel
theorem dX3_total_40 : decode cX3_total 40 = .ok (.iconst 0, 1) := by decide +kernel
theorem dX3_total_41 : decode cX3_total 41 = .ok (.istore 4, 2) := by decide +kernel
theorem dX3_total_43 : decode cX3_total 43 = .ok (.iload 4, 2) := by decide +kernel
theorem dX3_total_45 : decode cX3_total 45 = .ok (.aload_n 0, 1) := by decide +kernel
theorem dX3_total_46 : decode cX3_total 46 = .ok (.getfield 13, 3) := by decide +kernel
theorem dX3_total_49 : decode cX3_total 49 = .ok (.iload_n 1, 1) := by decide +kernel
theorem dX3_total_50 : decode cX3_total 50 = .ok (.iaload, 1) := by decide +kernel
theorem dX3_total_51 : decode cX3_total 51 = .ok (.if_icmp .ge 19, 3) := by decide +kernel
theorem dX3_total_54 : decode cX3_total 54 = .ok (.dload_n 2, 1) := by decide +kernel
theorem dX3_total_55 : decode cX3_total 55 = .ok (.aload_n 0, 1) := by decide +kernel
theorem dX3_total_56 : decode cX3_total 56 = .ok (.iload_n 1, 1) := by decide +kernel
theorem dX3_total_57 : decode cX3_total 57 = .ok (.iload 4, 2) := by decide +kernel
theorem dX3_total_59 : decode cX3_total 59 = .ok (.invokevirtual 71, 3) := by decide +kernel
theorem dX3_total_62 : decode cX3_total 62 = .ok (.dadd, 1) := by decide +kernel
theorem dX3_total_63 : decode cX3_total 63 = .ok (.dstore_n 2, 1) := by decide +kernel
theorem dX3_total_64 : decode cX3_total 64 = .ok (.iinc 4 1, 3) := by decide +kernel
theorem dX3_total_67 : decode cX3_total 67 = .ok (.goto (-24), 3) := by decide +kernel
theorem dX3_total_70 : decode cX3_total 70 = .ok (.dload_n 2, 1) := by decide +kernel
theorem dX3_total_71 : decode cX3_total 71 = .ok (.dreturn, 1) := by decide +kernel
set_option maxRecDepth 20000 in
theorem ggX3_widened_X3_isColumn : GoodIn wsX3_widened wsX3_isColumn := goodIn_r _ [11, 2, 42, 43, 44, 45, 46, 47, 48, 49] (by decide +kernel) (by decide +kernel)
set_option maxRecDepth 20000 in
theorem gX3_widened_X3_isColumn : GoodIn wsX3_widened (wsV RX3 52 RX3 yX3_isColumn wsX3_isColumn) := goodIn_app (goodIn_of _ (by decide +kernel)) ggX3_widened_X3_isColumn
set_option maxRecDepth 20000 in
theorem ggX3_widened_X3_fail : GoodIn wsX3_widened wsX3_fail := goodIn_r _ [15, 1, 42, 43, 44, 45, 46, 47, 48, 49] (by decide +kernel) (by decide +kernel)
set_option maxRecDepth 20000 in
theorem gX3_widened_X3_fail : GoodIn wsX3_widened (wsV RX3 45 RX3 yX3_fail wsX3_fail) := goodIn_app (goodIn_of _ (by decide +kernel)) ggX3_widened_X3_fail
set_option maxRecDepth 20000 in
theorem ggX3_widened_X3_has : GoodIn wsX3_widened wsX3_has := goodIn_r _ [18] (by decide +kernel) (by decide +kernel)
set_option maxRecDepth 20000 in
theorem gX3_widened_X3_has : GoodIn wsX3_widened (va_wsS RX3 34 yX3_has wsX3_has) := goodIn_app (goodIn_of _ (by decide +kernel)) ggX3_widened_X3_has
set_option maxRecDepth 20000 in
theorem ggX3_widened_X3_codeOf : GoodIn wsX3_widened wsX3_codeOf := goodIn_r _ [22, 3, 42, 43, 44, 45, 46, 47, 48, 49] (by decide +kernel) (by decide +kernel)
set_option maxRecDepth 20000 in
theorem gX3_widened_X3_codeOf : GoodIn wsX3_widened (wsV RX3 41 RX3 yX3_codeOf wsX3_codeOf) := goodIn_app (goodIn_of _ (by decide +kernel)) ggX3_widened_X3_codeOf
set_option maxRecDepth 20000 in
theorem ggX3_widened_X3_widens : GoodIn wsX3_widened wsX3_widens := goodIn_r _ [25, 16, 17, 10, 18] (by decide +kernel) (by decide +kernel)
set_option maxRecDepth 20000 in
theorem gX3_widened_X3_widens : GoodIn wsX3_widened (va_wsS RX3 60 yX3_widens wsX3_widens) := goodIn_app (goodIn_of _ (by decide +kernel)) ggX3_widened_X3_widens
set_option maxRecDepth 20000 in
theorem ggX3_widened_X3_note : GoodIn wsX3_widened wsX3_note := goodIn_r _ [29, 30, 31, 42, 43, 44, 45, 46, 47, 48, 49] (by decide +kernel) (by decide +kernel)
set_option maxRecDepth 20000 in
theorem gX3_widened_X3_note : GoodIn wsX3_widened (wsV RX3 55 RX3 yX3_note wsX3_note) := goodIn_app (goodIn_of _ (by decide +kernel)) ggX3_widened_X3_note
set_option maxRecDepth 20000 in
theorem ggX3_widened_X3_create : GoodIn wsX3_widened wsX3_create := goodIn_r _ [35, 1, 2, 3, 4, 5, 6, 16, 17, 10, 18, 12, 13, 14, 15, 36, 37, 38, 42, 43, 44, 45, 46, 47, 48, 49] (by decide +kernel) (by decide +kernel)
set_option maxRecDepth 20000 in
theorem gX3_widened_X3_create : GoodIn wsX3_widened (wsV RX3 109 RX3 yX3_create wsX3_create) := goodIn_app (goodIn_of _ (by decide +kernel)) ggX3_widened_X3_create
set_option maxRecDepth 20000 in
theorem ggX3_widened_X3_at : GoodIn wsX3_widened wsX3_at := goodIn_r _ [38] (by decide +kernel) (by decide +kernel)
set_option maxRecDepth 20000 in
theorem gX3_widened_X3_at : GoodIn wsX3_widened (va_wsS RX3 48 yX3_at wsX3_at) := goodIn_app (goodIn_of _ (by decide +kernel)) ggX3_widened_X3_at
set_option maxRecDepth 20000 in
theorem ggX3_widened_X3_isReal : GoodIn wsX3_widened wsX3_isReal := goodIn_r _ [41] (by decide +kernel) (by decide +kernel)
set_option maxRecDepth 20000 in
theorem gX3_widened_X3_isReal : GoodIn wsX3_widened (va_wsS RX3 68 yX3_isReal wsX3_isReal) := goodIn_app (goodIn_of _ (by decide +kernel)) ggX3_widened_X3_isReal
theorem dX3_widened_0 : decode cX3_widened 0 = .ok (.aload_n 0, 1) := by decide +kernel
theorem dX3_widened_1 : decode cX3_widened 1 = .ok (.iconst 0, 1) := by decide +kernel
theorem dX3_widened_2 : decode cX3_widened 2 = .ok (.putfield 27, 3) := by decide +kernel
theorem dX3_widened_5 : decode cX3_widened 5 = .ok (.aload_n 0, 1) := by decide +kernel
theorem dX3_widened_6 : decode cX3_widened 6 = .ok (.iload_n 1, 1) := by decide +kernel
theorem dX3_widened_7 : decode cX3_widened 7 = .ok (.invokevirtual 52, 3) := by decide +kernel
theorem dX3_widened_10 : decode cX3_widened 10 = .ok (.ifCond .ne 9, 3) := by decide +kernel
theorem dX3_widened_13 : decode cX3_widened 13 = .ok (.aload_n 0, 1) := by decide +kernel
theorem dX3_widened_14 : decode cX3_widened 14 = .ok (.iconst 1, 1) := by decide +kernel
theorem dX3_widened_15 : decode cX3_widened 15 = .ok (.invokevirtual 45, 3) := by decide +kernel
theorem dX3_widened_18 : decode cX3_widened 18 = .ok (.ireturn, 1) := by decide +kernel
theorem dX3_widened_19 : decode cX3_widened 19 = .ok (.iload_n 2, 1) := by decide +kernel
theorem dX3_widened_20 : decode cX3_widened 20 = .ok (.invokestatic 34, 3) := by decide +kernel
theorem dX3_widened_23 : decode cX3_widened 23 = .ok (.ifCond .ne 9, 3) := by decide +kernel
theorem dX3_widened_26 : decode cX3_widened 26 = .ok (.aload_n 0, 1) := by decide +kernel
theorem dX3_widened_27 : decode cX3_widened 27 = .ok (.iconst 2, 1) := by decide +kernel
theorem dX3_widened_28 : decode cX3_widened 28 = .ok (.invokevirtual 45, 3) := by decide +kernel
theorem dX3_widened_31 : decode cX3_widened 31 = .ok (.ireturn, 1) := by decide +kernel
theorem dX3_widened_32 : decode cX3_widened 32 = .ok (.aload_n 0, 1) := by decide +kernel
theorem dX3_widened_33 : decode cX3_widened 33 = .ok (.getfield 31, 3) := by decide +kernel
theorem dX3_widened_36 : decode cX3_widened 36 = .ok (.bipush 60, 2) := by decide +kernel
theorem dX3_widened_38 : decode cX3_widened 38 = .ok (.if_icmp .ne 9, 3) := by decide +kernel
theorem dX3_widened_41 : decode cX3_widened 41 = .ok (.aload_n 0, 1) := by decide +kernel
theorem dX3_widened_42 : decode cX3_widened 42 = .ok (.iconst 3, 1) := by decide +kernel
theorem dX3_widened_43 : decode cX3_widened 43 = .ok (.invokevirtual 45, 3) := by decide +kernel
theorem dX3_widened_46 : decode cX3_widened 46 = .ok (.ireturn, 1) := by decide +kernel
theorem dX3_widened_47 : decode cX3_widened 47 = .ok (.aload_n 0, 1) := by decide +kernel
theorem dX3_widened_48 : decode cX3_widened 48 = .ok (.iload_n 1, 1) := by decide +kernel
theorem dX3_widened_49 : decode cX3_widened 49 = .ok (.invokevirtual 41, 3) := by decide +kernel
theorem dX3_widened_52 : decode cX3_widened 52 = .ok (.istore_n 3, 1) := by decide +kernel
theorem dX3_widened_53 : decode cX3_widened 53 = .ok (.aload_n 0, 1) := by decide +kernel
theorem dX3_widened_54 : decode cX3_widened 54 = .ok (.iload_n 3, 1) := by decide +kernel
theorem dX3_widened_55 : decode cX3_widened 55 = .ok (.ifCond .ne 20, 3) := by decide +kernel
theorem dX3_widened_58 : decode cX3_widened 58 = .ok (.aload_n 0, 1) := by decide +kernel
theorem dX3_widened_59 : decode cX3_widened 59 = .ok (.getfield 9, 3) := by decide +kernel
theorem dX3_widened_62 : decode cX3_widened 62 = .ok (.iload_n 1, 1) := by decide +kernel
theorem dX3_widened_63 : decode cX3_widened 63 = .ok (.iaload, 1) := by decide +kernel
theorem dX3_widened_64 : decode cX3_widened 64 = .ok (.iload_n 2, 1) := by decide +kernel
theorem dX3_widened_65 : decode cX3_widened 65 = .ok (.invokestatic 60, 3) := by decide +kernel
theorem dX3_widened_68 : decode cX3_widened 68 = .ok (.ifCond .ne 7, 3) := by decide +kernel
theorem dX3_widened_71 : decode cX3_widened 71 = .ok (.iconst 4, 1) := by decide +kernel
theorem dX3_widened_72 : decode cX3_widened 72 = .ok (.goto 4, 3) := by decide +kernel
theorem dX3_widened_75 : decode cX3_widened 75 = .ok (.iload_n 3, 1) := by decide +kernel
theorem dX3_widened_76 : decode cX3_widened 76 = .ok (.invokevirtual 55, 3) := by decide +kernel
theorem dX3_widened_79 : decode cX3_widened 79 = .ok (.ifCond .ne 5, 3) := by decide +kernel
theorem dX3_widened_82 : decode cX3_widened 82 = .ok (.iconst (-1), 1) := by decide +kernel
theorem dX3_widened_83 : decode cX3_widened 83 = .ok (.ireturn, 1) := by decide +kernel
theorem dX3_widened_84 : decode cX3_widened 84 = .ok (.aload_n 0, 1) := by decide +kernel
theorem dX3_widened_85 : decode cX3_widened 85 = .ok (.iload_n 2, 1) := by decide +kernel
theorem dX3_widened_86 : decode cX3_widened 86 = .ok (.aload_n 0, 1) := by decide +kernel
theorem dX3_widened_87 : decode cX3_widened 87 = .ok (.getfield 13, 3) := by decide +kernel
theorem dX3_widened_90 : decode cX3_widened 90 = .ok (.iload_n 1, 1) := by decide +kernel
theorem dX3_widened_91 : decode cX3_widened 91 = .ok (.iaload, 1) := by decide +kernel
theorem dX3_widened_92 : decode cX3_widened 92 = .ok (.invokevirtual 109, 3) := by decide +kernel
theorem dX3_widened_95 : decode cX3_widened 95 = .ok (.istore 4, 2) := by decide +kernel
theorem dX3_widened_97 : decode cX3_widened 97 = .ok (.iconst 0, 1) := by decide +kernel
theorem dX3_widened_98 : decode cX3_widened 98 = .ok (.istore 5, 2) := by decide +kernel
theorem dX3_widened_100 : decode cX3_widened 100 = .ok (.iload 5, 2) := by decide +kernel
theorem dX3_widened_102 : decode cX3_widened 102 = .ok (.aload_n 0, 1) := by decide +kernel
theorem dX3_widened_103 : decode cX3_widened 103 = .ok (.getfield 13, 3) := by decide +kernel
theorem dX3_widened_106 : decode cX3_widened 106 = .ok (.iload_n 1, 1) := by decide +kernel
theorem dX3_widened_107 : decode cX3_widened 107 = .ok (.iaload, 1) := by decide +kernel
theorem dX3_widened_108 : decode cX3_widened 108 = .ok (.if_icmp .ge 115, 3) := by decide +kernel
theorem dX3_widened_111 : decode cX3_widened 111 = .ok (.aload_n 0, 1) := by decide +kernel
theorem dX3_widened_112 : decode cX3_widened 112 = .ok (.getfield 16, 3) := by decide +kernel
theorem dX3_widened_115 : decode cX3_widened 115 = .ok (.iload 4, 2) := by decide +kernel
theorem dX3_widened_117 : decode cX3_widened 117 = .ok (.iload 5, 2) := by decide +kernel
theorem dX3_widened_119 : decode cX3_widened 119 = .ok (.invokestatic 48, 3) := by decide +kernel
theorem dX3_widened_122 : decode cX3_widened 122 = .ok (.aload_n 0, 1) := by decide +kernel
theorem dX3_widened_123 : decode cX3_widened 123 = .ok (.getfield 16, 3) := by decide +kernel
theorem dX3_widened_126 : decode cX3_widened 126 = .ok (.iload_n 1, 1) := by decide +kernel
theorem dX3_widened_127 : decode cX3_widened 127 = .ok (.iload 5, 2) := by decide +kernel
theorem dX3_widened_129 : decode cX3_widened 129 = .ok (.invokestatic 48, 3) := by decide +kernel
theorem dX3_widened_132 : decode cX3_widened 132 = .ok (.laload, 1) := by decide +kernel
theorem dX3_widened_133 : decode cX3_widened 133 = .ok (.lastore, 1) := by decide +kernel
theorem dX3_widened_134 : decode cX3_widened 134 = .ok (.aload_n 0, 1) := by decide +kernel
theorem dX3_widened_135 : decode cX3_widened 135 = .ok (.getfield 20, 3) := by decide +kernel
theorem dX3_widened_138 : decode cX3_widened 138 = .ok (.iload 4, 2) := by decide +kernel
theorem dX3_widened_140 : decode cX3_widened 140 = .ok (.iload 5, 2) := by decide +kernel
theorem dX3_widened_142 : decode cX3_widened 142 = .ok (.invokestatic 48, 3) := by decide +kernel
theorem dX3_widened_145 : decode cX3_widened 145 = .ok (.iload_n 2, 1) := by decide +kernel
theorem dX3_widened_146 : decode cX3_widened 146 = .ok (.invokestatic 68, 3) := by decide +kernel
theorem dX3_widened_149 : decode cX3_widened 149 = .ok (.ifCond .ne 7, 3) := by decide +kernel
theorem dX3_widened_152 : decode cX3_widened 152 = .ok (.dconst 0, 1) := by decide +kernel
theorem dX3_widened_153 : decode cX3_widened 153 = .ok (.goto 63, 3) := by decide +kernel
theorem dX3_widened_156 : decode cX3_widened 156 = .ok (.aload_n 0, 1) := by decide +kernel
theorem dX3_widened_157 : decode cX3_widened 157 = .ok (.getfield 9, 3) := by decide +kernel
theorem dX3_widened_160 : decode cX3_widened 160 = .ok (.iload_n 1, 1) := by decide +kernel
theorem dX3_widened_161 : decode cX3_widened 161 = .ok (.iaload, 1) := by decide +kernel
theorem dX3_widened_162 : decode cX3_widened 162 = .ok (.invokestatic 68, 3) := by decide +kernel
theorem dX3_widened_165 : decode cX3_widened 165 = .ok (.ifCond .eq 17, 3) := by decide +kernel
theorem dX3_widened_168 : decode cX3_widened 168 = .ok (.aload_n 0, 1) := by decide +kernel
theorem dX3_widened_169 : decode cX3_widened 169 = .ok (.getfield 20, 3) := by decide +kernel
theorem dX3_widened_172 : decode cX3_widened 172 = .ok (.iload_n 1, 1) := by decide +kernel
theorem dX3_widened_173 : decode cX3_widened 173 = .ok (.iload 5, 2) := by decide +kernel
theorem dX3_widened_175 : decode cX3_widened 175 = .ok (.invokestatic 48, 3) := by decide +kernel
theorem dX3_widened_178 : decode cX3_widened 178 = .ok (.daload, 1) := by decide +kernel
theorem dX3_widened_179 : decode cX3_widened 179 = .ok (.goto 37, 3) := by decide +kernel
theorem dX3_widened_182 : decode cX3_widened 182 = .ok (.iload_n 2, 1) := by decide +kernel
theorem dX3_widened_183 : decode cX3_widened 183 = .ok (.bipush 7, 2) := by decide +kernel
theorem dX3_widened_185 : decode cX3_widened 185 = .ok (.if_icmp .ne 19, 3) := by decide +kernel
theorem dX3_widened_188 : decode cX3_widened 188 = .ok (.aload_n 0, 1) := by decide +kernel
theorem dX3_widened_189 : decode cX3_widened 189 = .ok (.getfield 16, 3) := by decide +kernel
theorem dX3_widened_192 : decode cX3_widened 192 = .ok (.iload_n 1, 1) := by decide +kernel
theorem dX3_widened_193 : decode cX3_widened 193 = .ok (.iload 5, 2) := by decide +kernel
theorem dX3_widened_195 : decode cX3_widened 195 = .ok (.invokestatic 48, 3) := by decide +kernel
theorem dX3_widened_198 : decode cX3_widened 198 = .ok (.laload, 1) := by decide +kernel
theorem dX3_widened_199 : decode cX3_widened 199 = .ok (.l2f, 1) := by decide +kernel
theorem dX3_widened_200 : decode cX3_widened 200 = .ok (.f2d, 1) := by decide +kernel
theorem dX3_widened_201 : decode cX3_widened 201 = .ok (.goto 15, 3) := by decide +kernel
theorem dX3_widened_204 : decode cX3_widened 204 = .ok (.aload_n 0, 1) := by decide +kernel
theorem dX3_widened_205 : decode cX3_widened 205 = .ok (.getfield 16, 3) := by decide +kernel
theorem dX3_widened_208 : decode cX3_widened 208 = .ok (.iload_n 1, 1) := by decide +kernel
theorem dX3_widened_209 : decode cX3_widened 209 = .ok (.iload 5, 2) := by decide +kernel
theorem dX3_widened_211 : decode cX3_widened 211 = .ok (.invokestatic 48, 3) := by decide +kernel
theorem dX3_widened_214 : decode cX3_widened 214 = .ok (.laload, 1) := by decide +kernel
theorem dX3_widened_215 : decode cX3_widened 215 = .ok (.l2d, 1) := by decide +kernel
theorem dX3_widened_216 : decode cX3_widened 216 = .ok (.dastore, 1) := by decide +kernel
theorem dX3_widened_217 : decode cX3_widened 217 = .ok (.iinc 5 1, 3) := by decide +kernel
theorem dX3_widened_220 : decode cX3_widened 220 = .ok (.goto (-120), 3) := by decide +kernel
theorem dX3_widened_223 : decode cX3_widened 223 = .ok (.iload 4, 2) := by decide +kernel
theorem dX3_widened_225 : decode cX3_widened 225 = .ok (.ireturn, 1) := by decide +kernel
theorem dX3_code_0 : decode cX3_code 0 = .ok (.aload_n 0, 1) := by decide +kernel
theorem dX3_code_1 : decode cX3_code 1 = .ok (.iconst 0, 1) := by decide +kernel
theorem dX3_code_2 : decode cX3_code 2 = .ok (.putfield 27, 3) := by decide +kernel
theorem dX3_code_5 : decode cX3_code 5 = .ok (.aload_n 0, 1) := by decide +kernel
theorem dX3_code_6 : decode cX3_code 6 = .ok (.getfield 38, 3) := by decide +kernel
theorem dX3_code_9 : decode cX3_code 9 = .ok (.ireturn, 1) := by decide +kernel
set_option maxRecDepth 20000 in
theorem ggX3_count_X3_fail : GoodIn wsX3_count wsX3_fail := goodIn_r _ [7, 1, 8, 9, 10, 11, 12, 13, 14, 15] (by decide +kernel) (by decide +kernel)
set_option maxRecDepth 20000 in
theorem gX3_count_X3_fail : GoodIn wsX3_count (wsV RX3 45 RX3 yX3_fail wsX3_fail) := goodIn_app (goodIn_of _ (by decide +kernel)) ggX3_count_X3_fail
theorem dX3_count_0 : decode cX3_count 0 = .ok (.aload_n 0, 1) := by decide +kernel
theorem dX3_count_1 : decode cX3_count 1 = .ok (.iconst 0, 1) := by decide +kernel
theorem dX3_count_2 : decode cX3_count 2 = .ok (.putfield 27, 3) := by decide +kernel
theorem dX3_count_5 : decode cX3_count 5 = .ok (.iload_n 1, 1) := by decide +kernel
theorem dX3_count_6 : decode cX3_count 6 = .ok (.ifCond .lt 17, 3) := by decide +kernel
theorem dX3_count_9 : decode cX3_count 9 = .ok (.iload_n 1, 1) := by decide +kernel
theorem dX3_count_10 : decode cX3_count 10 = .ok (.iconst 5, 1) := by decide +kernel
theorem dX3_count_11 : decode cX3_count 11 = .ok (.if_icmp .gt 12, 3) := by decide +kernel
theorem dX3_count_14 : decode cX3_count 14 = .ok (.aload_n 0, 1) := by decide +kernel
theorem dX3_count_15 : decode cX3_count 15 = .ok (.getfield 24, 3) := by decide +kernel
theorem dX3_count_18 : decode cX3_count 18 = .ok (.iload_n 1, 1) := by decide +kernel
theorem dX3_count_19 : decode cX3_count 19 = .ok (.iaload, 1) := by decide +kernel
theorem dX3_count_20 : decode cX3_count 20 = .ok (.goto 8, 3) := by decide +kernel
theorem dX3_count_23 : decode cX3_count 23 = .ok (.aload_n 0, 1) := by decide +kernel
theorem dX3_count_24 : decode cX3_count 24 = .ok (.iconst 1, 1) := by decide +kernel
theorem dX3_count_25 : decode cX3_count 25 = .ok (.invokevirtual 45, 3) := by decide +kernel
theorem dX3_count_28 : decode cX3_count 28 = .ok (.ireturn, 1) := by decide +kernel
theorem dX3_isKind_0 : decode cX3_isKind 0 = .ok (.iload_n 0, 1) := by decide +kernel
theorem dX3_isKind_1 : decode cX3_isKind 1 = .ok (.ifCond .lt 13, 3) := by decide +kernel
theorem dX3_isKind_4 : decode cX3_isKind 4 = .ok (.iload_n 0, 1) := by decide +kernel
theorem dX3_isKind_5 : decode cX3_isKind 5 = .ok (.bipush 10, 2) := by decide +kernel
theorem dX3_isKind_7 : decode cX3_isKind 7 = .ok (.if_icmp .ge 7, 3) := by decide +kernel
theorem dX3_isKind_10 : decode cX3_isKind 10 = .ok (.iconst 1, 1) := by decide +kernel
theorem dX3_isKind_11 : decode cX3_isKind 11 = .ok (.goto 4, 3) := by decide +kernel
theorem dX3_isKind_14 : decode cX3_isKind 14 = .ok (.iconst 0, 1) := by decide +kernel
theorem dX3_isKind_15 : decode cX3_isKind 15 = .ok (.ireturn, 1) := by decide +kernel
set_option maxRecDepth 20000 in
theorem ggX3_hasCells_X3_isKind : GoodIn wsX3_hasCells wsX3_isKind := goodIn_r _ [5] (by decide +kernel) (by decide +kernel)
set_option maxRecDepth 20000 in
theorem gX3_hasCells_X3_isKind : GoodIn wsX3_hasCells (va_wsS RX3 112 yX3_isKind wsX3_isKind) := goodIn_app (goodIn_of _ (by decide +kernel)) ggX3_hasCells_X3_isKind
set_option maxRecDepth 20000 in
theorem ggX3_hasCells_X3_has : GoodIn wsX3_hasCells wsX3_has := goodIn_r _ [8] (by decide +kernel) (by decide +kernel)
set_option maxRecDepth 20000 in
theorem gX3_hasCells_X3_has : GoodIn wsX3_hasCells (va_wsS RX3 34 yX3_has wsX3_has) := goodIn_app (goodIn_of _ (by decide +kernel)) ggX3_hasCells_X3_has
theorem dX3_hasCells_0 : decode cX3_hasCells 0 = .ok (.aload_n 0, 1) := by decide +kernel
theorem dX3_hasCells_1 : decode cX3_hasCells 1 = .ok (.iload_n 1, 1) := by decide +kernel
theorem dX3_hasCells_2 : decode cX3_hasCells 2 = .ok (.invokestatic 112, 3) := by decide +kernel
theorem dX3_hasCells_5 : decode cX3_hasCells 5 = .ok (.ifCond .eq 7, 3) := by decide +kernel
theorem dX3_hasCells_8 : decode cX3_hasCells 8 = .ok (.iconst 0, 1) := by decide +kernel
theorem dX3_hasCells_9 : decode cX3_hasCells 9 = .ok (.goto 4, 3) := by decide +kernel
theorem dX3_hasCells_12 : decode cX3_hasCells 12 = .ok (.iconst 1, 1) := by decide +kernel
theorem dX3_hasCells_13 : decode cX3_hasCells 13 = .ok (.putfield 27, 3) := by decide +kernel
theorem dX3_hasCells_16 : decode cX3_hasCells 16 = .ok (.aload_n 0, 1) := by decide +kernel
theorem dX3_hasCells_17 : decode cX3_hasCells 17 = .ok (.getfield 27, 3) := by decide +kernel
theorem dX3_hasCells_20 : decode cX3_hasCells 20 = .ok (.ifCond .ne 14, 3) := by decide +kernel
theorem dX3_hasCells_23 : decode cX3_hasCells 23 = .ok (.iload_n 1, 1) := by decide +kernel
theorem dX3_hasCells_24 : decode cX3_hasCells 24 = .ok (.invokestatic 34, 3) := by decide +kernel
theorem dX3_hasCells_27 : decode cX3_hasCells 27 = .ok (.ifCond .eq 7, 3) := by decide +kernel
theorem dX3_hasCells_30 : decode cX3_hasCells 30 = .ok (.iconst 1, 1) := by decide +kernel
theorem dX3_hasCells_31 : decode cX3_hasCells 31 = .ok (.goto 4, 3) := by decide +kernel
theorem dX3_hasCells_34 : decode cX3_hasCells 34 = .ok (.iconst 0, 1) := by decide +kernel
theorem dX3_hasCells_35 : decode cX3_hasCells 35 = .ok (.ireturn, 1) := by decide +kernel
set_option maxRecDepth 20000 in
theorem ggX3_isNumber_X3_isKind : GoodIn wsX3_isNumber wsX3_isKind := goodIn_r _ [5] (by decide +kernel) (by decide +kernel)
set_option maxRecDepth 20000 in
theorem gX3_isNumber_X3_isKind : GoodIn wsX3_isNumber (va_wsS RX3 112 yX3_isKind wsX3_isKind) := goodIn_app (goodIn_of _ (by decide +kernel)) ggX3_isNumber_X3_isKind
set_option maxRecDepth 20000 in
theorem ggX3_isNumber_X3_has : GoodIn wsX3_isNumber wsX3_has := goodIn_r _ [8] (by decide +kernel) (by decide +kernel)
set_option maxRecDepth 20000 in
theorem gX3_isNumber_X3_has : GoodIn wsX3_isNumber (va_wsS RX3 34 yX3_has wsX3_has) := goodIn_app (goodIn_of _ (by decide +kernel)) ggX3_isNumber_X3_has
theorem dX3_isNumber_0 : decode cX3_isNumber 0 = .ok (.aload_n 0, 1) := by decide +kernel
theorem dX3_isNumber_1 : decode cX3_isNumber 1 = .ok (.iload_n 1, 1) := by decide +kernel
theorem dX3_isNumber_2 : decode cX3_isNumber 2 = .ok (.invokestatic 112, 3) := by decide +kernel
theorem dX3_isNumber_5 : decode cX3_isNumber 5 = .ok (.ifCond .eq 7, 3) := by decide +kernel
theorem dX3_isNumber_8 : decode cX3_isNumber 8 = .ok (.iconst 0, 1) := by decide +kernel
theorem dX3_isNumber_9 : decode cX3_isNumber 9 = .ok (.goto 4, 3) := by decide +kernel
theorem dX3_isNumber_12 : decode cX3_isNumber 12 = .ok (.iconst 1, 1) := by decide +kernel
theorem dX3_isNumber_13 : decode cX3_isNumber 13 = .ok (.putfield 27, 3) := by decide +kernel
theorem dX3_isNumber_16 : decode cX3_isNumber 16 = .ok (.aload_n 0, 1) := by decide +kernel
theorem dX3_isNumber_17 : decode cX3_isNumber 17 = .ok (.getfield 27, 3) := by decide +kernel
theorem dX3_isNumber_20 : decode cX3_isNumber 20 = .ok (.ifCond .ne 24, 3) := by decide +kernel
theorem dX3_isNumber_23 : decode cX3_isNumber 23 = .ok (.iload_n 1, 1) := by decide +kernel
theorem dX3_isNumber_24 : decode cX3_isNumber 24 = .ok (.invokestatic 34, 3) := by decide +kernel
theorem dX3_isNumber_27 : decode cX3_isNumber 27 = .ok (.ifCond .eq 17, 3) := by decide +kernel
theorem dX3_isNumber_30 : decode cX3_isNumber 30 = .ok (.iload_n 1, 1) := by decide +kernel
theorem dX3_isNumber_31 : decode cX3_isNumber 31 = .ok (.iconst 1, 1) := by decide +kernel
theorem dX3_isNumber_32 : decode cX3_isNumber 32 = .ok (.if_icmp .eq 12, 3) := by decide +kernel
theorem dX3_isNumber_35 : decode cX3_isNumber 35 = .ok (.iload_n 1, 1) := by decide +kernel
theorem dX3_isNumber_36 : decode cX3_isNumber 36 = .ok (.iconst 3, 1) := by decide +kernel
theorem dX3_isNumber_37 : decode cX3_isNumber 37 = .ok (.if_icmp .eq 7, 3) := by decide +kernel
theorem dX3_isNumber_40 : decode cX3_isNumber 40 = .ok (.iconst 1, 1) := by decide +kernel
theorem dX3_isNumber_41 : decode cX3_isNumber 41 = .ok (.goto 4, 3) := by decide +kernel
theorem dX3_isNumber_44 : decode cX3_isNumber 44 = .ok (.iconst 0, 1) := by decide +kernel
theorem dX3_isNumber_45 : decode cX3_isNumber 45 = .ok (.ireturn, 1) := by decide +kernel
set_option maxRecDepth 20000 in
theorem ggX3_canWiden_X3_isKind : GoodIn wsX3_canWiden wsX3_isKind := goodIn_r _ [5] (by decide +kernel) (by decide +kernel)
set_option maxRecDepth 20000 in
theorem gX3_canWiden_X3_isKind : GoodIn wsX3_canWiden (va_wsS RX3 112 yX3_isKind wsX3_isKind) := goodIn_app (goodIn_of _ (by decide +kernel)) ggX3_canWiden_X3_isKind
set_option maxRecDepth 20000 in
theorem ggX3_canWiden_X3_widens : GoodIn wsX3_canWiden wsX3_widens := goodIn_r _ [8, 9, 10, 4, 11] (by decide +kernel) (by decide +kernel)
set_option maxRecDepth 20000 in
theorem gX3_canWiden_X3_widens : GoodIn wsX3_canWiden (va_wsS RX3 60 yX3_widens wsX3_widens) := goodIn_app (goodIn_of _ (by decide +kernel)) ggX3_canWiden_X3_widens
theorem dX3_canWiden_0 : decode cX3_canWiden 0 = .ok (.aload_n 0, 1) := by decide +kernel
theorem dX3_canWiden_1 : decode cX3_canWiden 1 = .ok (.iload_n 1, 1) := by decide +kernel
theorem dX3_canWiden_2 : decode cX3_canWiden 2 = .ok (.invokestatic 112, 3) := by decide +kernel
theorem dX3_canWiden_5 : decode cX3_canWiden 5 = .ok (.ifCond .eq 14, 3) := by decide +kernel
theorem dX3_canWiden_8 : decode cX3_canWiden 8 = .ok (.iload_n 2, 1) := by decide +kernel
theorem dX3_canWiden_9 : decode cX3_canWiden 9 = .ok (.invokestatic 112, 3) := by decide +kernel
theorem dX3_canWiden_12 : decode cX3_canWiden 12 = .ok (.ifCond .eq 7, 3) := by decide +kernel
theorem dX3_canWiden_15 : decode cX3_canWiden 15 = .ok (.iconst 0, 1) := by decide +kernel
theorem dX3_canWiden_16 : decode cX3_canWiden 16 = .ok (.goto 4, 3) := by decide +kernel
theorem dX3_canWiden_19 : decode cX3_canWiden 19 = .ok (.iconst 1, 1) := by decide +kernel
theorem dX3_canWiden_20 : decode cX3_canWiden 20 = .ok (.putfield 27, 3) := by decide +kernel
theorem dX3_canWiden_23 : decode cX3_canWiden 23 = .ok (.aload_n 0, 1) := by decide +kernel
theorem dX3_canWiden_24 : decode cX3_canWiden 24 = .ok (.getfield 27, 3) := by decide +kernel
theorem dX3_canWiden_27 : decode cX3_canWiden 27 = .ok (.ifCond .ne 15, 3) := by decide +kernel
theorem dX3_canWiden_30 : decode cX3_canWiden 30 = .ok (.iload_n 1, 1) := by decide +kernel
theorem dX3_canWiden_31 : decode cX3_canWiden 31 = .ok (.iload_n 2, 1) := by decide +kernel
theorem dX3_canWiden_32 : decode cX3_canWiden 32 = .ok (.invokestatic 60, 3) := by decide +kernel
theorem dX3_canWiden_35 : decode cX3_canWiden 35 = .ok (.ifCond .eq 7, 3) := by decide +kernel
theorem dX3_canWiden_38 : decode cX3_canWiden 38 = .ok (.iconst 1, 1) := by decide +kernel
theorem dX3_canWiden_39 : decode cX3_canWiden 39 = .ok (.goto 4, 3) := by decide +kernel
theorem dX3_canWiden_42 : decode cX3_canWiden 42 = .ok (.iconst 0, 1) := by decide +kernel
theorem dX3_canWiden_43 : decode cX3_canWiden 43 = .ok (.ireturn, 1) := by decide +kernel
set_option maxRecDepth 20000 in
theorem ggX3_digest_X3_has : GoodIn wsX3_digest wsX3_has := goodIn_r _ [13] (by decide +kernel) (by decide +kernel)
set_option maxRecDepth 20000 in
theorem gX3_digest_X3_has : GoodIn wsX3_digest (va_wsS RX3 34 yX3_has wsX3_has) := goodIn_app (goodIn_of _ (by decide +kernel)) ggX3_digest_X3_has
set_option maxRecDepth 20000 in
theorem ggX3_digest_X3_isReal : GoodIn wsX3_digest wsX3_isReal := goodIn_r _ [16] (by decide +kernel) (by decide +kernel)
set_option maxRecDepth 20000 in
theorem gX3_digest_X3_isReal : GoodIn wsX3_digest (va_wsS RX3 68 yX3_isReal wsX3_isReal) := goodIn_app (goodIn_of _ (by decide +kernel)) ggX3_digest_X3_isReal
set_option maxRecDepth 20000 in
theorem ggX3_digest_X3_at : GoodIn wsX3_digest wsX3_at := goodIn_r _ [19] (by decide +kernel) (by decide +kernel)
set_option maxRecDepth 20000 in
theorem gX3_digest_X3_at : GoodIn wsX3_digest (va_wsS RX3 48 yX3_at wsX3_at) := goodIn_app (goodIn_of _ (by decide +kernel)) ggX3_digest_X3_at
set_option maxRecDepth 20000 in
theorem ggX3_digest_Jxe99ae_doubleToLongBits_ccdee : GoodIn wsX3_digest wsJxe99ae_doubleToLongBits_ccdee := goodIn_r _ [23, 24, 25, 26, 27, 28, 29, 30, 22, 31] (by decide +kernel) (by decide +kernel)
set_option maxRecDepth 20000 in
theorem gX3_digest_Jxe99ae_doubleToLongBits_ccdee : GoodIn wsX3_digest (va_wsS RX3 119 yJxe99ae_doubleToLongBits_ccdee wsJxe99ae_doubleToLongBits_ccdee) := goodIn_app (goodIn_of _ (by decide +kernel)) ggX3_digest_Jxe99ae_doubleToLongBits_ccdee
theorem dX3_digest_0 : decode cX3_digest 0 = .ok (.aload_n 0, 1) := by decide +kernel
theorem dX3_digest_1 : decode cX3_digest 1 = .ok (.iconst 0, 1) := by decide +kernel
theorem dX3_digest_2 : decode cX3_digest 2 = .ok (.putfield 27, 3) := by decide +kernel
theorem dX3_digest_5 : decode cX3_digest 5 = .ok (.ldc2_w 115, 3) := by decide +kernel
theorem dX3_digest_8 : decode cX3_digest 8 = .ok (.aload_n 0, 1) := by decide +kernel
theorem dX3_digest_9 : decode cX3_digest 9 = .ok (.getfield 31, 3) := by decide +kernel
theorem dX3_digest_12 : decode cX3_digest 12 = .ok (.i2l, 1) := by decide +kernel
theorem dX3_digest_13 : decode cX3_digest 13 = .ok (.ladd, 1) := by decide +kernel
theorem dX3_digest_14 : decode cX3_digest 14 = .ok (.lstore_n 1, 1) := by decide +kernel
theorem dX3_digest_15 : decode cX3_digest 15 = .ok (.iconst 0, 1) := by decide +kernel
theorem dX3_digest_16 : decode cX3_digest 16 = .ok (.istore_n 3, 1) := by decide +kernel
theorem dX3_digest_17 : decode cX3_digest 17 = .ok (.iload_n 3, 1) := by decide +kernel
theorem dX3_digest_18 : decode cX3_digest 18 = .ok (.aload_n 0, 1) := by decide +kernel
theorem dX3_digest_19 : decode cX3_digest 19 = .ok (.getfield 31, 3) := by decide +kernel
theorem dX3_digest_22 : decode cX3_digest 22 = .ok (.if_icmp .ge 118, 3) := by decide +kernel
theorem dX3_digest_25 : decode cX3_digest 25 = .ok (.lload_n 1, 1) := by decide +kernel
theorem dX3_digest_26 : decode cX3_digest 26 = .ok (.ldc2_w 117, 3) := by decide +kernel
theorem dX3_digest_29 : decode cX3_digest 29 = .ok (.lmul, 1) := by decide +kernel
theorem dX3_digest_30 : decode cX3_digest 30 = .ok (.aload_n 0, 1) := by decide +kernel
theorem dX3_digest_31 : decode cX3_digest 31 = .ok (.getfield 9, 3) := by decide +kernel
theorem dX3_digest_34 : decode cX3_digest 34 = .ok (.iload_n 3, 1) := by decide +kernel
theorem dX3_digest_35 : decode cX3_digest 35 = .ok (.iaload, 1) := by decide +kernel
theorem dX3_digest_36 : decode cX3_digest 36 = .ok (.i2l, 1) := by decide +kernel
theorem dX3_digest_37 : decode cX3_digest 37 = .ok (.ladd, 1) := by decide +kernel
theorem dX3_digest_38 : decode cX3_digest 38 = .ok (.ldc2_w 117, 3) := by decide +kernel
theorem dX3_digest_41 : decode cX3_digest 41 = .ok (.lmul, 1) := by decide +kernel
theorem dX3_digest_42 : decode cX3_digest 42 = .ok (.aload_n 0, 1) := by decide +kernel
theorem dX3_digest_43 : decode cX3_digest 43 = .ok (.getfield 9, 3) := by decide +kernel
theorem dX3_digest_46 : decode cX3_digest 46 = .ok (.iload_n 3, 1) := by decide +kernel
theorem dX3_digest_47 : decode cX3_digest 47 = .ok (.iaload, 1) := by decide +kernel
theorem dX3_digest_48 : decode cX3_digest 48 = .ok (.invokestatic 34, 3) := by decide +kernel
theorem dX3_digest_51 : decode cX3_digest 51 = .ok (.ifCond .eq 12, 3) := by decide +kernel
theorem dX3_digest_54 : decode cX3_digest 54 = .ok (.aload_n 0, 1) := by decide +kernel
theorem dX3_digest_55 : decode cX3_digest 55 = .ok (.getfield 13, 3) := by decide +kernel
theorem dX3_digest_58 : decode cX3_digest 58 = .ok (.iload_n 3, 1) := by decide +kernel
theorem dX3_digest_59 : decode cX3_digest 59 = .ok (.iaload, 1) := by decide +kernel
theorem dX3_digest_60 : decode cX3_digest 60 = .ok (.goto 4, 3) := by decide +kernel
theorem dX3_digest_63 : decode cX3_digest 63 = .ok (.iconst (-1), 1) := by decide +kernel
theorem dX3_digest_64 : decode cX3_digest 64 = .ok (.i2l, 1) := by decide +kernel
theorem dX3_digest_65 : decode cX3_digest 65 = .ok (.ladd, 1) := by decide +kernel
theorem dX3_digest_66 : decode cX3_digest 66 = .ok (.lstore_n 1, 1) := by decide +kernel
theorem dX3_digest_67 : decode cX3_digest 67 = .ok (.iconst 0, 1) := by decide +kernel
theorem dX3_digest_68 : decode cX3_digest 68 = .ok (.istore 4, 2) := by decide +kernel
theorem dX3_digest_70 : decode cX3_digest 70 = .ok (.iload 4, 2) := by decide +kernel
theorem dX3_digest_72 : decode cX3_digest 72 = .ok (.aload_n 0, 1) := by decide +kernel
theorem dX3_digest_73 : decode cX3_digest 73 = .ok (.getfield 13, 3) := by decide +kernel
theorem dX3_digest_76 : decode cX3_digest 76 = .ok (.iload_n 3, 1) := by decide +kernel
theorem dX3_digest_77 : decode cX3_digest 77 = .ok (.iaload, 1) := by decide +kernel
theorem dX3_digest_78 : decode cX3_digest 78 = .ok (.if_icmp .ge 56, 3) := by decide +kernel
theorem dX3_digest_81 : decode cX3_digest 81 = .ok (.lload_n 1, 1) := by decide +kernel
theorem dX3_digest_82 : decode cX3_digest 82 = .ok (.ldc2_w 117, 3) := by decide +kernel
theorem dX3_digest_85 : decode cX3_digest 85 = .ok (.lmul, 1) := by decide +kernel
theorem dX3_digest_86 : decode cX3_digest 86 = .ok (.aload_n 0, 1) := by decide +kernel
theorem dX3_digest_87 : decode cX3_digest 87 = .ok (.getfield 9, 3) := by decide +kernel
theorem dX3_digest_90 : decode cX3_digest 90 = .ok (.iload_n 3, 1) := by decide +kernel
theorem dX3_digest_91 : decode cX3_digest 91 = .ok (.iaload, 1) := by decide +kernel
theorem dX3_digest_92 : decode cX3_digest 92 = .ok (.invokestatic 68, 3) := by decide +kernel
theorem dX3_digest_95 : decode cX3_digest 95 = .ok (.ifCond .eq 20, 3) := by decide +kernel
theorem dX3_digest_98 : decode cX3_digest 98 = .ok (.aload_n 0, 1) := by decide +kernel
theorem dX3_digest_99 : decode cX3_digest 99 = .ok (.getfield 20, 3) := by decide +kernel
theorem dX3_digest_102 : decode cX3_digest 102 = .ok (.iload_n 3, 1) := by decide +kernel
theorem dX3_digest_103 : decode cX3_digest 103 = .ok (.iload 4, 2) := by decide +kernel
theorem dX3_digest_105 : decode cX3_digest 105 = .ok (.invokestatic 48, 3) := by decide +kernel
theorem dX3_digest_108 : decode cX3_digest 108 = .ok (.daload, 1) := by decide +kernel
theorem dX3_digest_109 : decode cX3_digest 109 = .ok (.invokestatic 119, 3) := by decide +kernel
theorem dX3_digest_112 : decode cX3_digest 112 = .ok (.goto 14, 3) := by decide +kernel
theorem dX3_digest_115 : decode cX3_digest 115 = .ok (.aload_n 0, 1) := by decide +kernel
theorem dX3_digest_116 : decode cX3_digest 116 = .ok (.getfield 16, 3) := by decide +kernel
theorem dX3_digest_119 : decode cX3_digest 119 = .ok (.iload_n 3, 1) := by decide +kernel
theorem dX3_digest_120 : decode cX3_digest 120 = .ok (.iload 4, 2) := by decide +kernel
theorem dX3_digest_122 : decode cX3_digest 122 = .ok (.invokestatic 48, 3) := by decide +kernel
theorem dX3_digest_125 : decode cX3_digest 125 = .ok (.laload, 1) := by decide +kernel
theorem dX3_digest_126 : decode cX3_digest 126 = .ok (.ladd, 1) := by decide +kernel
theorem dX3_digest_127 : decode cX3_digest 127 = .ok (.lstore_n 1, 1) := by decide +kernel
theorem dX3_digest_128 : decode cX3_digest 128 = .ok (.iinc 4 1, 3) := by decide +kernel
theorem dX3_digest_131 : decode cX3_digest 131 = .ok (.goto (-61), 3) := by decide +kernel
theorem dX3_digest_134 : decode cX3_digest 134 = .ok (.iinc 3 1, 3) := by decide +kernel
theorem dX3_digest_137 : decode cX3_digest 137 = .ok (.goto (-120), 3) := by decide +kernel
theorem dX3_digest_140 : decode cX3_digest 140 = .ok (.iconst 0, 1) := by decide +kernel
theorem dX3_digest_141 : decode cX3_digest 141 = .ok (.istore_n 3, 1) := by decide +kernel
theorem dX3_digest_142 : decode cX3_digest 142 = .ok (.iload_n 3, 1) := by decide +kernel
theorem dX3_digest_143 : decode cX3_digest 143 = .ok (.aload_n 0, 1) := by decide +kernel
theorem dX3_digest_144 : decode cX3_digest 144 = .ok (.getfield 24, 3) := by decide +kernel
theorem dX3_digest_147 : decode cX3_digest 147 = .ok (.arraylength, 1) := by decide +kernel
theorem dX3_digest_148 : decode cX3_digest 148 = .ok (.if_icmp .ge 23, 3) := by decide +kernel
theorem dX3_digest_151 : decode cX3_digest 151 = .ok (.lload_n 1, 1) := by decide +kernel
theorem dX3_digest_152 : decode cX3_digest 152 = .ok (.ldc2_w 117, 3) := by decide +kernel
theorem dX3_digest_155 : decode cX3_digest 155 = .ok (.lmul, 1) := by decide +kernel
theorem dX3_digest_156 : decode cX3_digest 156 = .ok (.aload_n 0, 1) := by decide +kernel
theorem dX3_digest_157 : decode cX3_digest 157 = .ok (.getfield 24, 3) := by decide +kernel
theorem dX3_digest_160 : decode cX3_digest 160 = .ok (.iload_n 3, 1) := by decide +kernel
theorem dX3_digest_161 : decode cX3_digest 161 = .ok (.iaload, 1) := by decide +kernel
theorem dX3_digest_162 : decode cX3_digest 162 = .ok (.i2l, 1) := by decide +kernel
theorem dX3_digest_163 : decode cX3_digest 163 = .ok (.ladd, 1) := by decide +kernel
theorem dX3_digest_164 : decode cX3_digest 164 = .ok (.lstore_n 1, 1) := by decide +kernel
theorem dX3_digest_165 : decode cX3_digest 165 = .ok (.iinc 3 1, 3) := by decide +kernel
theorem dX3_digest_168 : decode cX3_digest 168 = .ok (.goto (-26), 3) := by decide +kernel
theorem dX3_digest_171 : decode cX3_digest 171 = .ok (.lload_n 1, 1) := by decide +kernel
theorem dX3_digest_172 : decode cX3_digest 172 = .ok (.lreturn, 1) := by decide +kernel
theorem dJxe99ae_isNaN_b9ae7_0 : decode cJxe99ae_isNaN_b9ae7 0 = .ok (.dload_n 0, 1) := by decide +kernel
theorem dJxe99ae_isNaN_b9ae7_1 : decode cJxe99ae_isNaN_b9ae7 1 = .ok (.dload_n 0, 1) := by decide +kernel
theorem dJxe99ae_isNaN_b9ae7_2 : decode cJxe99ae_isNaN_b9ae7 2 = .ok (.dcmp .l, 1) := by decide +kernel
theorem dJxe99ae_isNaN_b9ae7_3 : decode cJxe99ae_isNaN_b9ae7 3 = .ok (.ifCond .eq 7, 3) := by decide +kernel
theorem dJxe99ae_isNaN_b9ae7_6 : decode cJxe99ae_isNaN_b9ae7 6 = .ok (.iconst 1, 1) := by decide +kernel
theorem dJxe99ae_isNaN_b9ae7_7 : decode cJxe99ae_isNaN_b9ae7 7 = .ok (.goto 4, 3) := by decide +kernel
theorem dJxe99ae_isNaN_b9ae7_10 : decode cJxe99ae_isNaN_b9ae7 10 = .ok (.iconst 0, 1) := by decide +kernel
theorem dJxe99ae_isNaN_b9ae7_11 : decode cJxe99ae_isNaN_b9ae7 11 = .ok (.ireturn, 1) := by decide +kernel
set_option maxRecDepth 20000 in
theorem ggJxe99ae_doubleToLongBits_ccdee_Jxe99ae_isNaN_b9ae7 : GoodIn wsJxe99ae_doubleToLongBits_ccdee wsJxe99ae_isNaN_b9ae7 := goodIn_r _ [9] (by decide +kernel) (by decide +kernel)
set_option maxRecDepth 20000 in
theorem gJxe99ae_doubleToLongBits_ccdee_Jxe99ae_isNaN_b9ae7 : GoodIn wsJxe99ae_doubleToLongBits_ccdee (va_wsS RJxe99ae 122 yJxe99ae_isNaN_b9ae7 wsJxe99ae_isNaN_b9ae7) := goodIn_app (goodIn_of _ (by decide +kernel)) ggJxe99ae_doubleToLongBits_ccdee_Jxe99ae_isNaN_b9ae7
theorem dJxe99ae_doubleToLongBits_ccdee_0 : decode cJxe99ae_doubleToLongBits_ccdee 0 = .ok (.dload_n 0, 1) := by decide +kernel
theorem dJxe99ae_doubleToLongBits_ccdee_1 : decode cJxe99ae_doubleToLongBits_ccdee 1 = .ok (.invokestatic 122, 3) := by decide +kernel
theorem dJxe99ae_doubleToLongBits_ccdee_4 : decode cJxe99ae_doubleToLongBits_ccdee 4 = .ok (.ifCond .ne 8, 3) := by decide +kernel
theorem dJxe99ae_doubleToLongBits_ccdee_7 : decode cJxe99ae_doubleToLongBits_ccdee 7 = .ok (.dload_n 0, 1) := by decide +kernel
theorem dJxe99ae_doubleToLongBits_ccdee_8 : decode cJxe99ae_doubleToLongBits_ccdee 8 = .ok (.invokestatic 134, 3) := by decide +kernel
theorem dJxe99ae_doubleToLongBits_ccdee_11 : decode cJxe99ae_doubleToLongBits_ccdee 11 = .ok (.lreturn, 1) := by decide +kernel
theorem dJxe99ae_doubleToLongBits_ccdee_12 : decode cJxe99ae_doubleToLongBits_ccdee 12 = .ok (.ldc2_w 137, 3) := by decide +kernel
theorem dJxe99ae_doubleToLongBits_ccdee_15 : decode cJxe99ae_doubleToLongBits_ccdee 15 = .ok (.lreturn, 1) := by decide +kernel
