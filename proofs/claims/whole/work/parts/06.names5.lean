set_option maxRecDepth 20000 in
theorem ggL_create_X2_create : GoodIn wsL_create wsX2_create := goodIn_ca (goodIn_ca (goodIn_r _ [7, 8, 9, 10, 11, 12, 13, 14, 6, 15, 16, 17, 18, 19, 20, 21, 22, 23, 24, 25, 26, 27, 28, 29, 30, 31, 32, 33, 34, 35, 36, 37, 38, 39, 40, 41, 42, 43, 44, 45, 46, 47, 48, 49, 50, 51, 52, 53, 54, 55, 56] (by decide +kernel) (by decide +kernel)) (goodIn_sub (fun _ h => List.mem_cons_of_mem _ (List.mem_append_left _ (List.mem_append_right _ h))) (by decide +kernel))) (goodIn_sub (fun _ h => List.mem_cons_of_mem _ (List.mem_append_right _ h)) (by decide +kernel))
set_option maxRecDepth 20000 in
theorem gL_create_X2_create : GoodIn wsL_create (wsV RL 7 RX2 yX2_create wsX2_create) := goodIn_app (goodIn_of _ (by decide +kernel)) ggL_create_X2_create
theorem dL_create_0 : decode cL_create 0 = .ok (.aload_n 3, 1) := by decide +kernel
theorem dL_create_1 : decode cL_create 1 = .ok (.iconst 0, 1) := by decide +kernel
theorem dL_create_2 : decode cL_create 2 = .ok (.aload_n 0, 1) := by decide +kernel
theorem dL_create_3 : decode cL_create 3 = .ok (.iload_n 1, 1) := by decide +kernel
theorem dL_create_4 : decode cL_create 4 = .ok (.iload_n 2, 1) := by decide +kernel
theorem dL_create_5 : decode cL_create 5 = .ok (.invokevirtual 7, 3) := by decide +kernel
theorem dL_create_8 : decode cL_create 8 = .ok (.i2l, 1) := by decide +kernel
theorem dL_create_9 : decode cL_create 9 = .ok (.lastore, 1) := by decide +kernel
theorem dL_create_10 : decode cL_create 10 = .ok (.goto 11, 3) := by decide +kernel
theorem dL_create_13 : decode cL_create 13 = .ok (.astore 4, 2) := by decide +kernel
theorem dL_create_15 : decode cL_create 15 = .ok (.iconst 1, 1) := by decide +kernel
theorem dL_create_16 : decode cL_create 16 = .ok (.ireturn, 1) := by decide +kernel
theorem dL_create_17 : decode cL_create 17 = .ok (.astore 4, 2) := by decide +kernel
theorem dL_create_19 : decode cL_create 19 = .ok (.iconst 2, 1) := by decide +kernel
theorem dL_create_20 : decode cL_create 20 = .ok (.ireturn, 1) := by decide +kernel
theorem dL_create_21 : decode cL_create 21 = .ok (.iconst 0, 1) := by decide +kernel
theorem dL_create_22 : decode cL_create 22 = .ok (.ireturn, 1) := by decide +kernel
set_option maxRecDepth 20000 in
theorem ggL_kind_X2_kind : GoodIn wsL_kind wsX2_kind := goodIn_ca (goodIn_r _ [6, 7, 8, 9, 10, 5, 11, 12, 13, 14, 15, 16, 17, 18, 19, 20, 21, 22, 23] (by decide +kernel) (by decide +kernel)) (goodIn_sub (fun _ h => List.mem_cons_of_mem _ (List.mem_append_right _ h)) (by decide +kernel))
set_option maxRecDepth 20000 in
theorem gL_kind_X2_kind : GoodIn wsL_kind (wsV RL 17 RX2 yX2_kind wsX2_kind) := goodIn_app (goodIn_of _ (by decide +kernel)) ggL_kind_X2_kind
theorem dL_kind_0 : decode cL_kind 0 = .ok (.aload_n 2, 1) := by decide +kernel
theorem dL_kind_1 : decode cL_kind 1 = .ok (.iconst 0, 1) := by decide +kernel
theorem dL_kind_2 : decode cL_kind 2 = .ok (.aload_n 0, 1) := by decide +kernel
theorem dL_kind_3 : decode cL_kind 3 = .ok (.iload_n 1, 1) := by decide +kernel
theorem dL_kind_4 : decode cL_kind 4 = .ok (.invokevirtual 17, 3) := by decide +kernel
theorem dL_kind_7 : decode cL_kind 7 = .ok (.i2l, 1) := by decide +kernel
theorem dL_kind_8 : decode cL_kind 8 = .ok (.lastore, 1) := by decide +kernel
theorem dL_kind_9 : decode cL_kind 9 = .ok (.goto 6, 3) := by decide +kernel
theorem dL_kind_12 : decode cL_kind 12 = .ok (.astore_n 3, 1) := by decide +kernel
theorem dL_kind_13 : decode cL_kind 13 = .ok (.iconst 1, 1) := by decide +kernel
theorem dL_kind_14 : decode cL_kind 14 = .ok (.ireturn, 1) := by decide +kernel
theorem dL_kind_15 : decode cL_kind 15 = .ok (.iconst 0, 1) := by decide +kernel
theorem dL_kind_16 : decode cL_kind 16 = .ok (.ireturn, 1) := by decide +kernel
set_option maxRecDepth 20000 in
theorem ggL_length_X2_length : GoodIn wsL_length wsX2_length := goodIn_ca (goodIn_r _ [6, 7, 8, 9, 10, 5, 11, 12, 13, 14, 15, 16, 17, 18, 19, 20, 21, 22, 23, 24, 25, 26, 27, 28, 29, 30, 31, 32, 33] (by decide +kernel) (by decide +kernel)) (goodIn_sub (fun _ h => List.mem_cons_of_mem _ (List.mem_append_right _ h)) (by decide +kernel))
set_option maxRecDepth 20000 in
theorem gL_length_X2_length : GoodIn wsL_length (wsV RL 23 RX2 yX2_length wsX2_length) := goodIn_app (goodIn_of _ (by decide +kernel)) ggL_length_X2_length
theorem dL_length_0 : decode cL_length 0 = .ok (.aload_n 2, 1) := by decide +kernel
theorem dL_length_1 : decode cL_length 1 = .ok (.iconst 0, 1) := by decide +kernel
theorem dL_length_2 : decode cL_length 2 = .ok (.aload_n 0, 1) := by decide +kernel
theorem dL_length_3 : decode cL_length 3 = .ok (.iload_n 1, 1) := by decide +kernel
theorem dL_length_4 : decode cL_length 4 = .ok (.invokevirtual 23, 3) := by decide +kernel
theorem dL_length_7 : decode cL_length 7 = .ok (.i2l, 1) := by decide +kernel
theorem dL_length_8 : decode cL_length 8 = .ok (.lastore, 1) := by decide +kernel
theorem dL_length_9 : decode cL_length 9 = .ok (.goto 6, 3) := by decide +kernel
theorem dL_length_12 : decode cL_length 12 = .ok (.astore_n 3, 1) := by decide +kernel
theorem dL_length_13 : decode cL_length 13 = .ok (.iconst 1, 1) := by decide +kernel
theorem dL_length_14 : decode cL_length 14 = .ok (.ireturn, 1) := by decide +kernel
theorem dL_length_15 : decode cL_length 15 = .ok (.iconst 0, 1) := by decide +kernel
theorem dL_length_16 : decode cL_length 16 = .ok (.ireturn, 1) := by decide +kernel
set_option maxRecDepth 20000 in
theorem ggL_readBoolean_X2_readBoolean : GoodIn wsL_readBoolean wsX2_readBoolean := goodIn_ca (goodIn_r _ [6, 7, 8, 9, 5, 10, 11, 12, 13, 14, 15, 16, 17, 18, 19, 20, 21, 22, 23, 24, 25, 26, 27, 28, 29, 30, 31, 32, 33, 34, 35, 36, 37, 38, 39, 40, 41, 42, 43, 44, 45, 46, 47, 48, 49, 50, 51, 52] (by decide +kernel) (by decide +kernel)) (goodIn_sub (fun _ h => List.mem_cons_of_mem _ (List.mem_append_right _ h)) (by decide +kernel))
set_option maxRecDepth 20000 in
theorem gL_readBoolean_X2_readBoolean : GoodIn wsL_readBoolean (wsV RL 26 RX2 yX2_readBoolean wsX2_readBoolean) := goodIn_app (goodIn_of _ (by decide +kernel)) ggL_readBoolean_X2_readBoolean
theorem dL_readBoolean_0 : decode cL_readBoolean 0 = .ok (.aload_n 3, 1) := by decide +kernel
theorem dL_readBoolean_1 : decode cL_readBoolean 1 = .ok (.iconst 0, 1) := by decide +kernel
theorem dL_readBoolean_2 : decode cL_readBoolean 2 = .ok (.aload_n 0, 1) := by decide +kernel
theorem dL_readBoolean_3 : decode cL_readBoolean 3 = .ok (.iload_n 1, 1) := by decide +kernel
theorem dL_readBoolean_4 : decode cL_readBoolean 4 = .ok (.iload_n 2, 1) := by decide +kernel
theorem dL_readBoolean_5 : decode cL_readBoolean 5 = .ok (.invokevirtual 26, 3) := by decide +kernel
theorem dL_readBoolean_8 : decode cL_readBoolean 8 = .ok (.ifCond .eq 7, 3) := by decide +kernel
theorem dL_readBoolean_11 : decode cL_readBoolean 11 = .ok (.lconst 1, 1) := by decide +kernel
theorem dL_readBoolean_12 : decode cL_readBoolean 12 = .ok (.goto 4, 3) := by decide +kernel
theorem dL_readBoolean_15 : decode cL_readBoolean 15 = .ok (.lconst 0, 1) := by decide +kernel
theorem dL_readBoolean_16 : decode cL_readBoolean 16 = .ok (.lastore, 1) := by decide +kernel
theorem dL_readBoolean_17 : decode cL_readBoolean 17 = .ok (.goto 7, 3) := by decide +kernel
theorem dL_readBoolean_20 : decode cL_readBoolean 20 = .ok (.astore 4, 2) := by decide +kernel
theorem dL_readBoolean_22 : decode cL_readBoolean 22 = .ok (.iconst 1, 1) := by decide +kernel
theorem dL_readBoolean_23 : decode cL_readBoolean 23 = .ok (.ireturn, 1) := by decide +kernel
theorem dL_readBoolean_24 : decode cL_readBoolean 24 = .ok (.iconst 0, 1) := by decide +kernel
theorem dL_readBoolean_25 : decode cL_readBoolean 25 = .ok (.ireturn, 1) := by decide +kernel
set_option maxRecDepth 20000 in
theorem ggL_readByte_X2_readByte : GoodIn wsL_readByte wsX2_readByte := goodIn_ca (goodIn_r _ [6, 7, 8, 9, 5, 10, 11, 12, 13, 14, 15, 16, 17, 18, 19, 20, 21, 22, 23, 24, 25, 26, 27, 28, 29, 30, 31, 32, 33, 34, 35, 36, 37, 38, 39, 40, 41, 42, 43, 44, 45, 46, 47, 48, 49, 50, 51, 52] (by decide +kernel) (by decide +kernel)) (goodIn_sub (fun _ h => List.mem_cons_of_mem _ (List.mem_append_right _ h)) (by decide +kernel))
set_option maxRecDepth 20000 in
theorem gL_readByte_X2_readByte : GoodIn wsL_readByte (wsV RL 30 RX2 yX2_readByte wsX2_readByte) := goodIn_app (goodIn_of _ (by decide +kernel)) ggL_readByte_X2_readByte
theorem dL_readByte_0 : decode cL_readByte 0 = .ok (.aload_n 3, 1) := by decide +kernel
theorem dL_readByte_1 : decode cL_readByte 1 = .ok (.iconst 0, 1) := by decide +kernel
theorem dL_readByte_2 : decode cL_readByte 2 = .ok (.aload_n 0, 1) := by decide +kernel
theorem dL_readByte_3 : decode cL_readByte 3 = .ok (.iload_n 1, 1) := by decide +kernel
theorem dL_readByte_4 : decode cL_readByte 4 = .ok (.iload_n 2, 1) := by decide +kernel
theorem dL_readByte_5 : decode cL_readByte 5 = .ok (.invokevirtual 30, 3) := by decide +kernel
theorem dL_readByte_8 : decode cL_readByte 8 = .ok (.i2l, 1) := by decide +kernel
theorem dL_readByte_9 : decode cL_readByte 9 = .ok (.lastore, 1) := by decide +kernel
theorem dL_readByte_10 : decode cL_readByte 10 = .ok (.goto 7, 3) := by decide +kernel
theorem dL_readByte_13 : decode cL_readByte 13 = .ok (.astore 4, 2) := by decide +kernel
theorem dL_readByte_15 : decode cL_readByte 15 = .ok (.iconst 1, 1) := by decide +kernel
theorem dL_readByte_16 : decode cL_readByte 16 = .ok (.ireturn, 1) := by decide +kernel
theorem dL_readByte_17 : decode cL_readByte 17 = .ok (.iconst 0, 1) := by decide +kernel
theorem dL_readByte_18 : decode cL_readByte 18 = .ok (.ireturn, 1) := by decide +kernel
set_option maxRecDepth 20000 in
theorem ggL_readChar_X2_readChar : GoodIn wsL_readChar wsX2_readChar := goodIn_ca (goodIn_r _ [6, 7, 8, 9, 5, 10, 11, 12, 13, 14, 15, 16, 17, 18, 19, 20, 21, 22, 23, 24, 25, 26, 27, 28, 29, 30, 31, 32, 33, 34, 35, 36, 37, 38, 39, 40, 41, 42, 43, 44, 45, 46, 47, 48, 49, 50, 51, 52] (by decide +kernel) (by decide +kernel)) (goodIn_sub (fun _ h => List.mem_cons_of_mem _ (List.mem_append_right _ h)) (by decide +kernel))
set_option maxRecDepth 20000 in
theorem gL_readChar_X2_readChar : GoodIn wsL_readChar (wsV RL 33 RX2 yX2_readChar wsX2_readChar) := goodIn_app (goodIn_of _ (by decide +kernel)) ggL_readChar_X2_readChar
theorem dL_readChar_0 : decode cL_readChar 0 = .ok (.aload_n 3, 1) := by decide +kernel
theorem dL_readChar_1 : decode cL_readChar 1 = .ok (.iconst 0, 1) := by decide +kernel
theorem dL_readChar_2 : decode cL_readChar 2 = .ok (.aload_n 0, 1) := by decide +kernel
theorem dL_readChar_3 : decode cL_readChar 3 = .ok (.iload_n 1, 1) := by decide +kernel
theorem dL_readChar_4 : decode cL_readChar 4 = .ok (.iload_n 2, 1) := by decide +kernel
theorem dL_readChar_5 : decode cL_readChar 5 = .ok (.invokevirtual 33, 3) := by decide +kernel
theorem dL_readChar_8 : decode cL_readChar 8 = .ok (.i2l, 1) := by decide +kernel
theorem dL_readChar_9 : decode cL_readChar 9 = .ok (.lastore, 1) := by decide +kernel
theorem dL_readChar_10 : decode cL_readChar 10 = .ok (.goto 7, 3) := by decide +kernel
theorem dL_readChar_13 : decode cL_readChar 13 = .ok (.astore 4, 2) := by decide +kernel
theorem dL_readChar_15 : decode cL_readChar 15 = .ok (.iconst 1, 1) := by decide +kernel
theorem dL_readChar_16 : decode cL_readChar 16 = .ok (.ireturn, 1) := by decide +kernel
theorem dL_readChar_17 : decode cL_readChar 17 = .ok (.iconst 0, 1) := by decide +kernel
theorem dL_readChar_18 : decode cL_readChar 18 = .ok (.ireturn, 1) := by decide +kernel
set_option maxRecDepth 20000 in
theorem ggL_readShort_X2_readShort : GoodIn wsL_readShort wsX2_readShort := goodIn_ca (goodIn_r _ [6, 7, 8, 9, 5, 10, 11, 12, 13, 14, 15, 16, 17, 18, 19, 20, 21, 22, 23, 24, 25, 26, 27, 28, 29, 30, 31, 32, 33, 34, 35, 36, 37, 38, 39, 40, 41, 42, 43, 44, 45, 46, 47, 48, 49, 50, 51, 52] (by decide +kernel) (by decide +kernel)) (goodIn_sub (fun _ h => List.mem_cons_of_mem _ (List.mem_append_right _ h)) (by decide +kernel))
set_option maxRecDepth 20000 in
theorem gL_readShort_X2_readShort : GoodIn wsL_readShort (wsV RL 36 RX2 yX2_readShort wsX2_readShort) := goodIn_app (goodIn_of _ (by decide +kernel)) ggL_readShort_X2_readShort
theorem dL_readShort_0 : decode cL_readShort 0 = .ok (.aload_n 3, 1) := by decide +kernel
theorem dL_readShort_1 : decode cL_readShort 1 = .ok (.iconst 0, 1) := by decide +kernel
theorem dL_readShort_2 : decode cL_readShort 2 = .ok (.aload_n 0, 1) := by decide +kernel
theorem dL_readShort_3 : decode cL_readShort 3 = .ok (.iload_n 1, 1) := by decide +kernel
theorem dL_readShort_4 : decode cL_readShort 4 = .ok (.iload_n 2, 1) := by decide +kernel
theorem dL_readShort_5 : decode cL_readShort 5 = .ok (.invokevirtual 36, 3) := by decide +kernel
theorem dL_readShort_8 : decode cL_readShort 8 = .ok (.i2l, 1) := by decide +kernel
theorem dL_readShort_9 : decode cL_readShort 9 = .ok (.lastore, 1) := by decide +kernel
theorem dL_readShort_10 : decode cL_readShort 10 = .ok (.goto 7, 3) := by decide +kernel
theorem dL_readShort_13 : decode cL_readShort 13 = .ok (.astore 4, 2) := by decide +kernel
theorem dL_readShort_15 : decode cL_readShort 15 = .ok (.iconst 1, 1) := by decide +kernel
theorem dL_readShort_16 : decode cL_readShort 16 = .ok (.ireturn, 1) := by decide +kernel
theorem dL_readShort_17 : decode cL_readShort 17 = .ok (.iconst 0, 1) := by decide +kernel
theorem dL_readShort_18 : decode cL_readShort 18 = .ok (.ireturn, 1) := by decide +kernel
set_option maxRecDepth 20000 in
theorem ggL_readInt_X2_readInt : GoodIn wsL_readInt wsX2_readInt := goodIn_ca (goodIn_r _ [6, 7, 8, 9, 5, 10, 11, 12, 13, 14, 15, 16, 17, 18, 19, 20, 21, 22, 23, 24, 25, 26, 27, 28, 29, 30, 31, 32, 33, 34, 35, 36, 37, 38, 39, 40, 41, 42, 43, 44, 45, 46, 47, 48, 49, 50, 51, 52] (by decide +kernel) (by decide +kernel)) (goodIn_sub (fun _ h => List.mem_cons_of_mem _ (List.mem_append_right _ h)) (by decide +kernel))
set_option maxRecDepth 20000 in
theorem gL_readInt_X2_readInt : GoodIn wsL_readInt (wsV RL 39 RX2 yX2_readInt wsX2_readInt) := goodIn_app (goodIn_of _ (by decide +kernel)) ggL_readInt_X2_readInt
theorem dL_readInt_0 : decode cL_readInt 0 = .ok (.aload_n 3, 1) := by decide +kernel
theorem dL_readInt_1 : decode cL_readInt 1 = .ok (.iconst 0, 1) := by decide +kernel
theorem dL_readInt_2 : decode cL_readInt 2 = .ok (.aload_n 0, 1) := by decide +kernel
theorem dL_readInt_3 : decode cL_readInt 3 = .ok (.iload_n 1, 1) := by decide +kernel
theorem dL_readInt_4 : decode cL_readInt 4 = .ok (.iload_n 2, 1) := by decide +kernel
theorem dL_readInt_5 : decode cL_readInt 5 = .ok (.invokevirtual 39, 3) := by decide +kernel
theorem dL_readInt_8 : decode cL_readInt 8 = .ok (.i2l, 1) := by decide +kernel
theorem dL_readInt_9 : decode cL_readInt 9 = .ok (.lastore, 1) := by decide +kernel
theorem dL_readInt_10 : decode cL_readInt 10 = .ok (.goto 7, 3) := by decide +kernel
theorem dL_readInt_13 : decode cL_readInt 13 = .ok (.astore 4, 2) := by decide +kernel
theorem dL_readInt_15 : decode cL_readInt 15 = .ok (.iconst 1, 1) := by decide +kernel
theorem dL_readInt_16 : decode cL_readInt 16 = .ok (.ireturn, 1) := by decide +kernel
theorem dL_readInt_17 : decode cL_readInt 17 = .ok (.iconst 0, 1) := by decide +kernel
theorem dL_readInt_18 : decode cL_readInt 18 = .ok (.ireturn, 1) := by decide +kernel
set_option maxRecDepth 20000 in
theorem ggL_readLong_X2_readLong : GoodIn wsL_readLong wsX2_readLong := goodIn_ca (goodIn_r _ [6, 7, 8, 9, 5, 10, 11, 12, 13, 14, 15, 16, 17, 18, 19, 20, 21, 22, 23, 24, 25, 26, 27, 28, 29, 30, 31, 32, 33, 34, 35, 36, 37, 38, 39, 40, 41, 42, 43, 44, 45, 46, 47, 48, 49, 50, 51, 52] (by decide +kernel) (by decide +kernel)) (goodIn_sub (fun _ h => List.mem_cons_of_mem _ (List.mem_append_right _ h)) (by decide +kernel))
set_option maxRecDepth 20000 in
theorem gL_readLong_X2_readLong : GoodIn wsL_readLong (wsV RL 42 RX2 yX2_readLong wsX2_readLong) := goodIn_app (goodIn_of _ (by decide +kernel)) ggL_readLong_X2_readLong
theorem dL_readLong_0 : decode cL_readLong 0 = .ok (.aload_n 3, 1) := by decide +kernel
theorem dL_readLong_1 : decode cL_readLong 1 = .ok (.iconst 0, 1) := by decide +kernel
theorem dL_readLong_2 : decode cL_readLong 2 = .ok (.aload_n 0, 1) := by decide +kernel
theorem dL_readLong_3 : decode cL_readLong 3 = .ok (.iload_n 1, 1) := by decide +kernel
theorem dL_readLong_4 : decode cL_readLong 4 = .ok (.iload_n 2, 1) := by decide +kernel
theorem dL_readLong_5 : decode cL_readLong 5 = .ok (.invokevirtual 42, 3) := by decide +kernel
theorem dL_readLong_8 : decode cL_readLong 8 = .ok (.lastore, 1) := by decide +kernel
theorem dL_readLong_9 : decode cL_readLong 9 = .ok (.goto 7, 3) := by decide +kernel
theorem dL_readLong_12 : decode cL_readLong 12 = .ok (.astore 4, 2) := by decide +kernel
theorem dL_readLong_14 : decode cL_readLong 14 = .ok (.iconst 1, 1) := by decide +kernel
theorem dL_readLong_15 : decode cL_readLong 15 = .ok (.ireturn, 1) := by decide +kernel
theorem dL_readLong_16 : decode cL_readLong 16 = .ok (.iconst 0, 1) := by decide +kernel
theorem dL_readLong_17 : decode cL_readLong 17 = .ok (.ireturn, 1) := by decide +kernel
set_option maxRecDepth 20000 in
theorem ggL_readFloat_X2_readFloat : GoodIn wsL_readFloat wsX2_readFloat := goodIn_ca (goodIn_r _ [6, 7, 8, 9, 10, 5, 11, 12, 13, 14, 15, 16, 17, 18, 19, 20, 21, 22, 23, 24, 25, 26, 27, 28, 29, 30, 31, 32, 33, 34, 35, 36, 37, 38, 39, 40, 41, 42, 43, 44, 45, 46, 47, 48, 49, 50, 51, 52, 53, 54, 55, 56, 57, 58, 59, 60, 61, 62, 63, 64, 65, 66] (by decide +kernel) (by decide +kernel)) (goodIn_sub (fun _ h => List.mem_cons_of_mem _ (List.mem_append_right _ h)) (by decide +kernel))
set_option maxRecDepth 20000 in
theorem gL_readFloat_X2_readFloat : GoodIn wsL_readFloat (wsV RL 46 RX2 yX2_readFloat wsX2_readFloat) := goodIn_app (goodIn_of _ (by decide +kernel)) ggL_readFloat_X2_readFloat
theorem dL_readFloat_0 : decode cL_readFloat 0 = .ok (.aload_n 3, 1) := by decide +kernel
theorem dL_readFloat_1 : decode cL_readFloat 1 = .ok (.iconst 0, 1) := by decide +kernel
theorem dL_readFloat_2 : decode cL_readFloat 2 = .ok (.aload_n 0, 1) := by decide +kernel
theorem dL_readFloat_3 : decode cL_readFloat 3 = .ok (.iload_n 1, 1) := by decide +kernel
theorem dL_readFloat_4 : decode cL_readFloat 4 = .ok (.iload_n 2, 1) := by decide +kernel
theorem dL_readFloat_5 : decode cL_readFloat 5 = .ok (.invokevirtual 46, 3) := by decide +kernel
theorem dL_readFloat_8 : decode cL_readFloat 8 = .ok (.f2d, 1) := by decide +kernel
theorem dL_readFloat_9 : decode cL_readFloat 9 = .ok (.dastore, 1) := by decide +kernel
theorem dL_readFloat_10 : decode cL_readFloat 10 = .ok (.goto 7, 3) := by decide +kernel
theorem dL_readFloat_13 : decode cL_readFloat 13 = .ok (.astore 4, 2) := by decide +kernel
theorem dL_readFloat_15 : decode cL_readFloat 15 = .ok (.iconst 1, 1) := by decide +kernel
theorem dL_readFloat_16 : decode cL_readFloat 16 = .ok (.ireturn, 1) := by decide +kernel
theorem dL_readFloat_17 : decode cL_readFloat 17 = .ok (.iconst 0, 1) := by decide +kernel
theorem dL_readFloat_18 : decode cL_readFloat 18 = .ok (.ireturn, 1) := by decide +kernel
set_option maxRecDepth 20000 in
theorem ggL_readDouble_X2_readDouble : GoodIn wsL_readDouble wsX2_readDouble := goodIn_ca (goodIn_r _ [6, 7, 8, 9, 5, 10, 11, 12, 13, 14, 15, 16, 17, 18, 19, 20, 21, 22, 23, 24, 25, 26, 27, 28, 29, 30, 31, 32, 33, 34, 35, 36, 37, 38, 39, 40, 41, 42, 43, 44, 45, 46, 47, 48, 49, 50, 51, 52, 53, 54, 55, 56, 57, 58, 59, 60, 61, 62, 63, 64] (by decide +kernel) (by decide +kernel)) (goodIn_sub (fun _ h => List.mem_cons_of_mem _ (List.mem_append_right _ h)) (by decide +kernel))
set_option maxRecDepth 20000 in
theorem gL_readDouble_X2_readDouble : GoodIn wsL_readDouble (wsV RL 50 RX2 yX2_readDouble wsX2_readDouble) := goodIn_app (goodIn_of _ (by decide +kernel)) ggL_readDouble_X2_readDouble
theorem dL_readDouble_0 : decode cL_readDouble 0 = .ok (.aload_n 3, 1) := by decide +kernel
theorem dL_readDouble_1 : decode cL_readDouble 1 = .ok (.iconst 0, 1) := by decide +kernel
theorem dL_readDouble_2 : decode cL_readDouble 2 = .ok (.aload_n 0, 1) := by decide +kernel
theorem dL_readDouble_3 : decode cL_readDouble 3 = .ok (.iload_n 1, 1) := by decide +kernel
theorem dL_readDouble_4 : decode cL_readDouble 4 = .ok (.iload_n 2, 1) := by decide +kernel
theorem dL_readDouble_5 : decode cL_readDouble 5 = .ok (.invokevirtual 50, 3) := by decide +kernel
theorem dL_readDouble_8 : decode cL_readDouble 8 = .ok (.dastore, 1) := by decide +kernel
theorem dL_readDouble_9 : decode cL_readDouble 9 = .ok (.goto 7, 3) := by decide +kernel
theorem dL_readDouble_12 : decode cL_readDouble 12 = .ok (.astore 4, 2) := by decide +kernel
theorem dL_readDouble_14 : decode cL_readDouble 14 = .ok (.iconst 1, 1) := by decide +kernel
theorem dL_readDouble_15 : decode cL_readDouble 15 = .ok (.ireturn, 1) := by decide +kernel
theorem dL_readDouble_16 : decode cL_readDouble 16 = .ok (.iconst 0, 1) := by decide +kernel
theorem dL_readDouble_17 : decode cL_readDouble 17 = .ok (.ireturn, 1) := by decide +kernel
set_option maxRecDepth 20000 in
theorem ggL_readAny_X2_readAny : GoodIn wsL_readAny wsX2_readAny := goodIn_ca (goodIn_r _ [6, 7, 8, 9, 10, 5, 11, 12, 13, 14, 15, 16, 17, 18, 19, 20, 21, 22, 23, 24, 25, 26, 27, 28, 29, 30, 31, 32, 33, 34, 35, 36, 37, 38, 39, 40, 41, 42, 43, 44, 45, 46, 47, 48, 49, 50, 51, 52, 53, 54, 55, 56, 57, 58, 59, 60, 61, 62, 63, 64] (by decide +kernel) (by decide +kernel)) (goodIn_sub (fun _ h => List.mem_cons_of_mem _ (List.mem_append_right _ h)) (by decide +kernel))
set_option maxRecDepth 20000 in
theorem gL_readAny_X2_readAny : GoodIn wsL_readAny (wsV RL 54 RX2 yX2_readAny wsX2_readAny) := goodIn_app (goodIn_of _ (by decide +kernel)) ggL_readAny_X2_readAny
theorem dL_readAny_0 : decode cL_readAny 0 = .ok (.aload_n 3, 1) := by decide +kernel
theorem dL_readAny_1 : decode cL_readAny 1 = .ok (.iconst 0, 1) := by decide +kernel
theorem dL_readAny_2 : decode cL_readAny 2 = .ok (.aload_n 0, 1) := by decide +kernel
theorem dL_readAny_3 : decode cL_readAny 3 = .ok (.iload_n 1, 1) := by decide +kernel
theorem dL_readAny_4 : decode cL_readAny 4 = .ok (.iload_n 2, 1) := by decide +kernel
theorem dL_readAny_5 : decode cL_readAny 5 = .ok (.invokevirtual 54, 3) := by decide +kernel
theorem dL_readAny_8 : decode cL_readAny 8 = .ok (.dastore, 1) := by decide +kernel
theorem dL_readAny_9 : decode cL_readAny 9 = .ok (.goto 7, 3) := by decide +kernel
theorem dL_readAny_12 : decode cL_readAny 12 = .ok (.astore 4, 2) := by decide +kernel
theorem dL_readAny_14 : decode cL_readAny 14 = .ok (.iconst 1, 1) := by decide +kernel
theorem dL_readAny_15 : decode cL_readAny 15 = .ok (.ireturn, 1) := by decide +kernel
theorem dL_readAny_16 : decode cL_readAny 16 = .ok (.iconst 0, 1) := by decide +kernel
theorem dL_readAny_17 : decode cL_readAny 17 = .ok (.ireturn, 1) := by decide +kernel
set_option maxRecDepth 20000 in
theorem ggL_writeBoolean_X2_writeBoolean : GoodIn wsL_writeBoolean wsX2_writeBoolean := goodIn_ca (goodIn_r _ [6, 7, 8, 9, 5, 10, 11, 12, 13, 14, 15, 16, 17, 18, 19, 20, 21, 22, 23, 24, 25, 26, 27, 28, 29, 30, 31, 32, 33, 34, 35, 36, 37, 38, 39, 40, 41, 42, 43, 44, 45, 46, 47, 48, 49, 50, 51, 52, 53, 54, 55, 56, 57, 58] (by decide +kernel) (by decide +kernel)) (goodIn_sub (fun _ h => List.mem_cons_of_mem _ (List.mem_append_right _ h)) (by decide +kernel))
set_option maxRecDepth 20000 in
theorem gL_writeBoolean_X2_writeBoolean : GoodIn wsL_writeBoolean (wsV RL 57 RX2 yX2_writeBoolean wsX2_writeBoolean) := goodIn_app (goodIn_of _ (by decide +kernel)) ggL_writeBoolean_X2_writeBoolean
theorem dL_writeBoolean_0 : decode cL_writeBoolean 0 = .ok (.aload 4, 2) := by decide +kernel
theorem dL_writeBoolean_2 : decode cL_writeBoolean 2 = .ok (.iconst 0, 1) := by decide +kernel
theorem dL_writeBoolean_3 : decode cL_writeBoolean 3 = .ok (.aload_n 0, 1) := by decide +kernel
theorem dL_writeBoolean_4 : decode cL_writeBoolean 4 = .ok (.iload_n 1, 1) := by decide +kernel
theorem dL_writeBoolean_5 : decode cL_writeBoolean 5 = .ok (.iload_n 2, 1) := by decide +kernel
theorem dL_writeBoolean_6 : decode cL_writeBoolean 6 = .ok (.iload_n 3, 1) := by decide +kernel
theorem dL_writeBoolean_7 : decode cL_writeBoolean 7 = .ok (.invokevirtual 57, 3) := by decide +kernel
theorem dL_writeBoolean_10 : decode cL_writeBoolean 10 = .ok (.i2l, 1) := by decide +kernel
theorem dL_writeBoolean_11 : decode cL_writeBoolean 11 = .ok (.lastore, 1) := by decide +kernel
theorem dL_writeBoolean_12 : decode cL_writeBoolean 12 = .ok (.goto 7, 3) := by decide +kernel
theorem dL_writeBoolean_15 : decode cL_writeBoolean 15 = .ok (.astore 5, 2) := by decide +kernel
theorem dL_writeBoolean_17 : decode cL_writeBoolean 17 = .ok (.iconst 1, 1) := by decide +kernel
theorem dL_writeBoolean_18 : decode cL_writeBoolean 18 = .ok (.ireturn, 1) := by decide +kernel
theorem dL_writeBoolean_19 : decode cL_writeBoolean 19 = .ok (.iconst 0, 1) := by decide +kernel
theorem dL_writeBoolean_20 : decode cL_writeBoolean 20 = .ok (.ireturn, 1) := by decide +kernel
set_option maxRecDepth 20000 in
theorem ggL_writeByte_X2_writeByte : GoodIn wsL_writeByte wsX2_writeByte := goodIn_ca (goodIn_r _ [6, 7, 8, 9, 5, 10, 11, 12, 13, 14, 15, 16, 17, 18, 19, 20, 21, 22, 23, 24, 25, 26, 27, 28, 29, 30, 31, 32, 33, 34, 35, 36, 37, 38, 39, 40, 41, 42, 43, 44, 45, 46, 47, 48, 49, 50, 51, 52, 53, 54, 55, 56, 57, 58] (by decide +kernel) (by decide +kernel)) (goodIn_sub (fun _ h => List.mem_cons_of_mem _ (List.mem_append_right _ h)) (by decide +kernel))
set_option maxRecDepth 20000 in
theorem gL_writeByte_X2_writeByte : GoodIn wsL_writeByte (wsV RL 61 RX2 yX2_writeByte wsX2_writeByte) := goodIn_app (goodIn_of _ (by decide +kernel)) ggL_writeByte_X2_writeByte
theorem dL_writeByte_0 : decode cL_writeByte 0 = .ok (.aload 4, 2) := by decide +kernel
theorem dL_writeByte_2 : decode cL_writeByte 2 = .ok (.iconst 0, 1) := by decide +kernel
theorem dL_writeByte_3 : decode cL_writeByte 3 = .ok (.aload_n 0, 1) := by decide +kernel
theorem dL_writeByte_4 : decode cL_writeByte 4 = .ok (.iload_n 1, 1) := by decide +kernel
theorem dL_writeByte_5 : decode cL_writeByte 5 = .ok (.iload_n 2, 1) := by decide +kernel
theorem dL_writeByte_6 : decode cL_writeByte 6 = .ok (.iload_n 3, 1) := by decide +kernel
theorem dL_writeByte_7 : decode cL_writeByte 7 = .ok (.invokevirtual 61, 3) := by decide +kernel
theorem dL_writeByte_10 : decode cL_writeByte 10 = .ok (.i2l, 1) := by decide +kernel
theorem dL_writeByte_11 : decode cL_writeByte 11 = .ok (.lastore, 1) := by decide +kernel
theorem dL_writeByte_12 : decode cL_writeByte 12 = .ok (.goto 7, 3) := by decide +kernel
theorem dL_writeByte_15 : decode cL_writeByte 15 = .ok (.astore 5, 2) := by decide +kernel
theorem dL_writeByte_17 : decode cL_writeByte 17 = .ok (.iconst 1, 1) := by decide +kernel
theorem dL_writeByte_18 : decode cL_writeByte 18 = .ok (.ireturn, 1) := by decide +kernel
theorem dL_writeByte_19 : decode cL_writeByte 19 = .ok (.iconst 0, 1) := by decide +kernel
theorem dL_writeByte_20 : decode cL_writeByte 20 = .ok (.ireturn, 1) := by decide +kernel
set_option maxRecDepth 20000 in
theorem ggL_writeChar_X2_writeChar : GoodIn wsL_writeChar wsX2_writeChar := goodIn_ca (goodIn_r _ [6, 7, 8, 9, 5, 10, 11, 12, 13, 14, 15, 16, 17, 18, 19, 20, 21, 22, 23, 24, 25, 26, 27, 28, 29, 30, 31, 32, 33, 34, 35, 36, 37, 38, 39, 40, 41, 42, 43, 44, 45, 46, 47, 48, 49, 50, 51, 52, 53, 54, 55, 56, 57, 58] (by decide +kernel) (by decide +kernel)) (goodIn_sub (fun _ h => List.mem_cons_of_mem _ (List.mem_append_right _ h)) (by decide +kernel))
set_option maxRecDepth 20000 in
theorem gL_writeChar_X2_writeChar : GoodIn wsL_writeChar (wsV RL 65 RX2 yX2_writeChar wsX2_writeChar) := goodIn_app (goodIn_of _ (by decide +kernel)) ggL_writeChar_X2_writeChar
theorem dL_writeChar_0 : decode cL_writeChar 0 = .ok (.aload 4, 2) := by decide +kernel
theorem dL_writeChar_2 : decode cL_writeChar 2 = .ok (.iconst 0, 1) := by decide +kernel
theorem dL_writeChar_3 : decode cL_writeChar 3 = .ok (.aload_n 0, 1) := by decide +kernel
theorem dL_writeChar_4 : decode cL_writeChar 4 = .ok (.iload_n 1, 1) := by decide +kernel
theorem dL_writeChar_5 : decode cL_writeChar 5 = .ok (.iload_n 2, 1) := by decide +kernel
theorem dL_writeChar_6 : decode cL_writeChar 6 = .ok (.iload_n 3, 1) := by decide +kernel
theorem dL_writeChar_7 : decode cL_writeChar 7 = .ok (.invokevirtual 65, 3) := by decide +kernel
theorem dL_writeChar_10 : decode cL_writeChar 10 = .ok (.i2l, 1) := by decide +kernel
theorem dL_writeChar_11 : decode cL_writeChar 11 = .ok (.lastore, 1) := by decide +kernel
theorem dL_writeChar_12 : decode cL_writeChar 12 = .ok (.goto 7, 3) := by decide +kernel
theorem dL_writeChar_15 : decode cL_writeChar 15 = .ok (.astore 5, 2) := by decide +kernel
theorem dL_writeChar_17 : decode cL_writeChar 17 = .ok (.iconst 1, 1) := by decide +kernel
theorem dL_writeChar_18 : decode cL_writeChar 18 = .ok (.ireturn, 1) := by decide +kernel
theorem dL_writeChar_19 : decode cL_writeChar 19 = .ok (.iconst 0, 1) := by decide +kernel
theorem dL_writeChar_20 : decode cL_writeChar 20 = .ok (.ireturn, 1) := by decide +kernel
set_option maxRecDepth 20000 in
theorem ggL_writeShort_X2_writeShort : GoodIn wsL_writeShort wsX2_writeShort := goodIn_ca (goodIn_r _ [6, 7, 8, 9, 5, 10, 11, 12, 13, 14, 15, 16, 17, 18, 19, 20, 21, 22, 23, 24, 25, 26, 27, 28, 29, 30, 31, 32, 33, 34, 35, 36, 37, 38, 39, 40, 41, 42, 43, 44, 45, 46, 47, 48, 49, 50, 51, 52, 53, 54, 55, 56, 57, 58] (by decide +kernel) (by decide +kernel)) (goodIn_sub (fun _ h => List.mem_cons_of_mem _ (List.mem_append_right _ h)) (by decide +kernel))
set_option maxRecDepth 20000 in
theorem gL_writeShort_X2_writeShort : GoodIn wsL_writeShort (wsV RL 68 RX2 yX2_writeShort wsX2_writeShort) := goodIn_app (goodIn_of _ (by decide +kernel)) ggL_writeShort_X2_writeShort
theorem dL_writeShort_0 : decode cL_writeShort 0 = .ok (.aload 4, 2) := by decide +kernel
theorem dL_writeShort_2 : decode cL_writeShort 2 = .ok (.iconst 0, 1) := by decide +kernel
theorem dL_writeShort_3 : decode cL_writeShort 3 = .ok (.aload_n 0, 1) := by decide +kernel
theorem dL_writeShort_4 : decode cL_writeShort 4 = .ok (.iload_n 1, 1) := by decide +kernel
theorem dL_writeShort_5 : decode cL_writeShort 5 = .ok (.iload_n 2, 1) := by decide +kernel
theorem dL_writeShort_6 : decode cL_writeShort 6 = .ok (.iload_n 3, 1) := by decide +kernel
theorem dL_writeShort_7 : decode cL_writeShort 7 = .ok (.invokevirtual 68, 3) := by decide +kernel
theorem dL_writeShort_10 : decode cL_writeShort 10 = .ok (.i2l, 1) := by decide +kernel
theorem dL_writeShort_11 : decode cL_writeShort 11 = .ok (.lastore, 1) := by decide +kernel
theorem dL_writeShort_12 : decode cL_writeShort 12 = .ok (.goto 7, 3) := by decide +kernel
theorem dL_writeShort_15 : decode cL_writeShort 15 = .ok (.astore 5, 2) := by decide +kernel
theorem dL_writeShort_17 : decode cL_writeShort 17 = .ok (.iconst 1, 1) := by decide +kernel
theorem dL_writeShort_18 : decode cL_writeShort 18 = .ok (.ireturn, 1) := by decide +kernel
theorem dL_writeShort_19 : decode cL_writeShort 19 = .ok (.iconst 0, 1) := by decide +kernel
theorem dL_writeShort_20 : decode cL_writeShort 20 = .ok (.ireturn, 1) := by decide +kernel
set_option maxRecDepth 20000 in
theorem ggL_writeInt_X2_writeInt : GoodIn wsL_writeInt wsX2_writeInt := goodIn_ca (goodIn_r _ [6, 7, 8, 9, 5, 10, 11, 12, 13, 14, 15, 16, 17, 18, 19, 20, 21, 22, 23, 24, 25, 26, 27, 28, 29, 30, 31, 32, 33, 34, 35, 36, 37, 38, 39, 40, 41, 42, 43, 44, 45, 46, 47, 48, 49, 50, 51, 52, 53, 54, 55, 56, 57, 58] (by decide +kernel) (by decide +kernel)) (goodIn_sub (fun _ h => List.mem_cons_of_mem _ (List.mem_append_right _ h)) (by decide +kernel))
set_option maxRecDepth 20000 in
theorem gL_writeInt_X2_writeInt : GoodIn wsL_writeInt (wsV RL 71 RX2 yX2_writeInt wsX2_writeInt) := goodIn_app (goodIn_of _ (by decide +kernel)) ggL_writeInt_X2_writeInt
theorem dL_writeInt_0 : decode cL_writeInt 0 = .ok (.aload 4, 2) := by decide +kernel
theorem dL_writeInt_2 : decode cL_writeInt 2 = .ok (.iconst 0, 1) := by decide +kernel
theorem dL_writeInt_3 : decode cL_writeInt 3 = .ok (.aload_n 0, 1) := by decide +kernel
theorem dL_writeInt_4 : decode cL_writeInt 4 = .ok (.iload_n 1, 1) := by decide +kernel
theorem dL_writeInt_5 : decode cL_writeInt 5 = .ok (.iload_n 2, 1) := by decide +kernel
theorem dL_writeInt_6 : decode cL_writeInt 6 = .ok (.iload_n 3, 1) := by decide +kernel
theorem dL_writeInt_7 : decode cL_writeInt 7 = .ok (.invokevirtual 71, 3) := by decide +kernel
theorem dL_writeInt_10 : decode cL_writeInt 10 = .ok (.i2l, 1) := by decide +kernel
theorem dL_writeInt_11 : decode cL_writeInt 11 = .ok (.lastore, 1) := by decide +kernel
theorem dL_writeInt_12 : decode cL_writeInt 12 = .ok (.goto 7, 3) := by decide +kernel
theorem dL_writeInt_15 : decode cL_writeInt 15 = .ok (.astore 5, 2) := by decide +kernel
theorem dL_writeInt_17 : decode cL_writeInt 17 = .ok (.iconst 1, 1) := by decide +kernel
theorem dL_writeInt_18 : decode cL_writeInt 18 = .ok (.ireturn, 1) := by decide +kernel
theorem dL_writeInt_19 : decode cL_writeInt 19 = .ok (.iconst 0, 1) := by decide +kernel
theorem dL_writeInt_20 : decode cL_writeInt 20 = .ok (.ireturn, 1) := by decide +kernel
set_option maxRecDepth 20000 in
theorem ggL_writeLong_X2_writeLong : GoodIn wsL_writeLong wsX2_writeLong := goodIn_ca (goodIn_r _ [6, 7, 8, 9, 5, 10, 11, 12, 13, 14, 15, 16, 17, 18, 19, 20, 21, 22, 23, 24, 25, 26, 27, 28, 29, 30, 31, 32, 33, 34, 35, 36, 37, 38, 39, 40, 41, 42, 43, 44, 45, 46, 47, 48, 49, 50, 51, 52, 53, 54, 55, 56, 57, 58] (by decide +kernel) (by decide +kernel)) (goodIn_sub (fun _ h => List.mem_cons_of_mem _ (List.mem_append_right _ h)) (by decide +kernel))
set_option maxRecDepth 20000 in
theorem gL_writeLong_X2_writeLong : GoodIn wsL_writeLong (wsV RL 74 RX2 yX2_writeLong wsX2_writeLong) := goodIn_app (goodIn_of _ (by decide +kernel)) ggL_writeLong_X2_writeLong
theorem dL_writeLong_0 : decode cL_writeLong 0 = .ok (.aload 5, 2) := by decide +kernel
theorem dL_writeLong_2 : decode cL_writeLong 2 = .ok (.iconst 0, 1) := by decide +kernel
theorem dL_writeLong_3 : decode cL_writeLong 3 = .ok (.aload_n 0, 1) := by decide +kernel
theorem dL_writeLong_4 : decode cL_writeLong 4 = .ok (.iload_n 1, 1) := by decide +kernel
theorem dL_writeLong_5 : decode cL_writeLong 5 = .ok (.iload_n 2, 1) := by decide +kernel
theorem dL_writeLong_6 : decode cL_writeLong 6 = .ok (.lload_n 3, 1) := by decide +kernel
theorem dL_writeLong_7 : decode cL_writeLong 7 = .ok (.invokevirtual 74, 3) := by decide +kernel
theorem dL_writeLong_10 : decode cL_writeLong 10 = .ok (.i2l, 1) := by decide +kernel
theorem dL_writeLong_11 : decode cL_writeLong 11 = .ok (.lastore, 1) := by decide +kernel
theorem dL_writeLong_12 : decode cL_writeLong 12 = .ok (.goto 7, 3) := by decide +kernel
theorem dL_writeLong_15 : decode cL_writeLong 15 = .ok (.astore 6, 2) := by decide +kernel
theorem dL_writeLong_17 : decode cL_writeLong 17 = .ok (.iconst 1, 1) := by decide +kernel
theorem dL_writeLong_18 : decode cL_writeLong 18 = .ok (.ireturn, 1) := by decide +kernel
theorem dL_writeLong_19 : decode cL_writeLong 19 = .ok (.iconst 0, 1) := by decide +kernel
theorem dL_writeLong_20 : decode cL_writeLong 20 = .ok (.ireturn, 1) := by decide +kernel
set_option maxRecDepth 20000 in
theorem ggL_writeFloat_X2_writeFloat : GoodIn wsL_writeFloat wsX2_writeFloat := goodIn_ca (goodIn_r _ [6, 7, 8, 9, 5, 10, 11, 12, 13, 14, 15, 16, 17, 18, 19, 20, 21, 22, 23, 24, 25, 26, 27, 28, 29, 30, 31, 32, 33, 34, 35, 36, 37, 38, 39, 40, 41, 42, 43, 44, 45, 46, 47, 48, 49, 50, 51, 52, 53, 54, 55, 56, 57, 58, 59] (by decide +kernel) (by decide +kernel)) (goodIn_sub (fun _ h => List.mem_cons_of_mem _ (List.mem_append_right _ h)) (by decide +kernel))
set_option maxRecDepth 20000 in
theorem gL_writeFloat_X2_writeFloat : GoodIn wsL_writeFloat (wsV RL 78 RX2 yX2_writeFloat wsX2_writeFloat) := goodIn_app (goodIn_of _ (by decide +kernel)) ggL_writeFloat_X2_writeFloat
theorem dL_writeFloat_0 : decode cL_writeFloat 0 = .ok (.aload 4, 2) := by decide +kernel
theorem dL_writeFloat_2 : decode cL_writeFloat 2 = .ok (.iconst 0, 1) := by decide +kernel
theorem dL_writeFloat_3 : decode cL_writeFloat 3 = .ok (.aload_n 0, 1) := by decide +kernel
theorem dL_writeFloat_4 : decode cL_writeFloat 4 = .ok (.iload_n 1, 1) := by decide +kernel
theorem dL_writeFloat_5 : decode cL_writeFloat 5 = .ok (.iload_n 2, 1) := by decide +kernel
theorem dL_writeFloat_6 : decode cL_writeFloat 6 = .ok (.fload_n 3, 1) := by decide +kernel
theorem dL_writeFloat_7 : decode cL_writeFloat 7 = .ok (.invokevirtual 78, 3) := by decide +kernel
theorem dL_writeFloat_10 : decode cL_writeFloat 10 = .ok (.i2l, 1) := by decide +kernel
theorem dL_writeFloat_11 : decode cL_writeFloat 11 = .ok (.lastore, 1) := by decide +kernel
theorem dL_writeFloat_12 : decode cL_writeFloat 12 = .ok (.goto 7, 3) := by decide +kernel
theorem dL_writeFloat_15 : decode cL_writeFloat 15 = .ok (.astore 5, 2) := by decide +kernel
theorem dL_writeFloat_17 : decode cL_writeFloat 17 = .ok (.iconst 1, 1) := by decide +kernel
theorem dL_writeFloat_18 : decode cL_writeFloat 18 = .ok (.ireturn, 1) := by decide +kernel
theorem dL_writeFloat_19 : decode cL_writeFloat 19 = .ok (.iconst 0, 1) := by decide +kernel
theorem dL_writeFloat_20 : decode cL_writeFloat 20 = .ok (.ireturn, 1) := by decide +kernel
set_option maxRecDepth 20000 in
theorem ggL_writeDouble_X2_writeDouble : GoodIn wsL_writeDouble wsX2_writeDouble := goodIn_ca (goodIn_r _ [6, 7, 8, 9, 5, 10, 11, 12, 13, 14, 15, 16, 17, 18, 19, 20, 21, 22, 23, 24, 25, 26, 27, 28, 29, 30, 31, 32, 33, 34, 35, 36, 37, 38, 39, 40, 41, 42, 43, 44, 45, 46, 47, 48, 49, 50, 51, 52] (by decide +kernel) (by decide +kernel)) (goodIn_sub (fun _ h => List.mem_cons_of_mem _ (List.mem_append_right _ h)) (by decide +kernel))
set_option maxRecDepth 20000 in
theorem gL_writeDouble_X2_writeDouble : GoodIn wsL_writeDouble (wsV RL 82 RX2 yX2_writeDouble wsX2_writeDouble) := goodIn_app (goodIn_of _ (by decide +kernel)) ggL_writeDouble_X2_writeDouble
theorem dL_writeDouble_0 : decode cL_writeDouble 0 = .ok (.aload 5, 2) := by decide +kernel
theorem dL_writeDouble_2 : decode cL_writeDouble 2 = .ok (.iconst 0, 1) := by decide +kernel
theorem dL_writeDouble_3 : decode cL_writeDouble 3 = .ok (.aload_n 0, 1) := by decide +kernel
theorem dL_writeDouble_4 : decode cL_writeDouble 4 = .ok (.iload_n 1, 1) := by decide +kernel
theorem dL_writeDouble_5 : decode cL_writeDouble 5 = .ok (.iload_n 2, 1) := by decide +kernel
theorem dL_writeDouble_6 : decode cL_writeDouble 6 = .ok (.dload_n 3, 1) := by decide +kernel
theorem dL_writeDouble_7 : decode cL_writeDouble 7 = .ok (.invokevirtual 82, 3) := by decide +kernel
theorem dL_writeDouble_10 : decode cL_writeDouble 10 = .ok (.i2l, 1) := by decide +kernel
theorem dL_writeDouble_11 : decode cL_writeDouble 11 = .ok (.lastore, 1) := by decide +kernel
theorem dL_writeDouble_12 : decode cL_writeDouble 12 = .ok (.goto 7, 3) := by decide +kernel
theorem dL_writeDouble_15 : decode cL_writeDouble 15 = .ok (.astore 6, 2) := by decide +kernel
theorem dL_writeDouble_17 : decode cL_writeDouble 17 = .ok (.iconst 1, 1) := by decide +kernel
theorem dL_writeDouble_18 : decode cL_writeDouble 18 = .ok (.ireturn, 1) := by decide +kernel
theorem dL_writeDouble_19 : decode cL_writeDouble 19 = .ok (.iconst 0, 1) := by decide +kernel
theorem dL_writeDouble_20 : decode cL_writeDouble 20 = .ok (.ireturn, 1) := by decide +kernel
set_option maxRecDepth 20000 in
theorem ggL_writeAny_X2_writeAny : GoodIn wsL_writeAny wsX2_writeAny := goodIn_ca (goodIn_ca (goodIn_r _ [7, 8, 9, 10, 6, 11, 12, 13, 14, 15, 16, 17, 18, 19, 20, 21, 22, 23, 24, 25, 26, 27, 28, 29, 30, 31, 32, 33, 34, 35, 36, 37, 38, 39, 40, 41, 42, 43, 44, 45, 46, 47, 48, 49, 50, 51, 52, 53, 54, 55, 56, 57, 58, 59, 60, 61, 62, 63, 64, 65, 66, 67, 68, 69, 70, 71, 72] (by decide +kernel) (by decide +kernel)) (goodIn_sub (fun _ h => List.mem_cons_of_mem _ (List.mem_append_left _ (List.mem_append_right _ h))) (by decide +kernel))) (goodIn_sub (fun _ h => List.mem_cons_of_mem _ (List.mem_append_right _ h)) (by decide +kernel))
set_option maxRecDepth 20000 in
theorem gL_writeAny_X2_writeAny : GoodIn wsL_writeAny (wsV RL 86 RX2 yX2_writeAny wsX2_writeAny) := goodIn_app (goodIn_of _ (by decide +kernel)) ggL_writeAny_X2_writeAny
theorem dL_writeAny_0 : decode cL_writeAny 0 = .ok (.aload 5, 2) := by decide +kernel
theorem dL_writeAny_2 : decode cL_writeAny 2 = .ok (.iconst 0, 1) := by decide +kernel
theorem dL_writeAny_3 : decode cL_writeAny 3 = .ok (.aload_n 0, 1) := by decide +kernel
theorem dL_writeAny_4 : decode cL_writeAny 4 = .ok (.iload_n 1, 1) := by decide +kernel
theorem dL_writeAny_5 : decode cL_writeAny 5 = .ok (.iload_n 2, 1) := by decide +kernel
theorem dL_writeAny_6 : decode cL_writeAny 6 = .ok (.iload_n 3, 1) := by decide +kernel
theorem dL_writeAny_7 : decode cL_writeAny 7 = .ok (.iload 4, 2) := by decide +kernel
theorem dL_writeAny_9 : decode cL_writeAny 9 = .ok (.invokevirtual 86, 3) := by decide +kernel
theorem dL_writeAny_12 : decode cL_writeAny 12 = .ok (.i2l, 1) := by decide +kernel
theorem dL_writeAny_13 : decode cL_writeAny 13 = .ok (.lastore, 1) := by decide +kernel
theorem dL_writeAny_14 : decode cL_writeAny 14 = .ok (.goto 11, 3) := by decide +kernel
theorem dL_writeAny_17 : decode cL_writeAny 17 = .ok (.astore 6, 2) := by decide +kernel
theorem dL_writeAny_19 : decode cL_writeAny 19 = .ok (.iconst 1, 1) := by decide +kernel
theorem dL_writeAny_20 : decode cL_writeAny 20 = .ok (.ireturn, 1) := by decide +kernel
theorem dL_writeAny_21 : decode cL_writeAny 21 = .ok (.astore 6, 2) := by decide +kernel
theorem dL_writeAny_23 : decode cL_writeAny 23 = .ok (.iconst 2, 1) := by decide +kernel
theorem dL_writeAny_24 : decode cL_writeAny 24 = .ok (.ireturn, 1) := by decide +kernel
theorem dL_writeAny_25 : decode cL_writeAny 25 = .ok (.iconst 0, 1) := by decide +kernel
theorem dL_writeAny_26 : decode cL_writeAny 26 = .ok (.ireturn, 1) := by decide +kernel
set_option maxRecDepth 20000 in
theorem ggL_copy_X2_copy : GoodIn wsL_copy wsX2_copy := goodIn_ca (goodIn_r _ [6, 7, 8, 9, 10, 5, 11, 12, 13, 14, 15, 16, 17, 18, 19, 20, 21, 22, 23, 24, 25, 26, 27, 28, 29, 30, 31, 32, 33, 34, 35, 36, 37, 38, 39, 40, 41, 42, 43, 44, 45, 46, 47] (by decide +kernel) (by decide +kernel)) (goodIn_sub (fun _ h => List.mem_cons_of_mem _ (List.mem_append_right _ h)) (by decide +kernel))
set_option maxRecDepth 20000 in
theorem gL_copy_X2_copy : GoodIn wsL_copy (wsV RL 90 RX2 yX2_copy wsX2_copy) := goodIn_app (goodIn_of _ (by decide +kernel)) ggL_copy_X2_copy
theorem dL_copy_0 : decode cL_copy 0 = .ok (.aload 6, 2) := by decide +kernel
theorem dL_copy_2 : decode cL_copy 2 = .ok (.iconst 0, 1) := by decide +kernel
theorem dL_copy_3 : decode cL_copy 3 = .ok (.aload_n 0, 1) := by decide +kernel
theorem dL_copy_4 : decode cL_copy 4 = .ok (.iload_n 1, 1) := by decide +kernel
theorem dL_copy_5 : decode cL_copy 5 = .ok (.iload_n 2, 1) := by decide +kernel
theorem dL_copy_6 : decode cL_copy 6 = .ok (.iload_n 3, 1) := by decide +kernel
theorem dL_copy_7 : decode cL_copy 7 = .ok (.iload 4, 2) := by decide +kernel
theorem dL_copy_9 : decode cL_copy 9 = .ok (.iload 5, 2) := by decide +kernel
theorem dL_copy_11 : decode cL_copy 11 = .ok (.invokevirtual 90, 3) := by decide +kernel
theorem dL_copy_14 : decode cL_copy 14 = .ok (.i2l, 1) := by decide +kernel
theorem dL_copy_15 : decode cL_copy 15 = .ok (.lastore, 1) := by decide +kernel
theorem dL_copy_16 : decode cL_copy 16 = .ok (.goto 7, 3) := by decide +kernel
theorem dL_copy_19 : decode cL_copy 19 = .ok (.astore 7, 2) := by decide +kernel
theorem dL_copy_21 : decode cL_copy 21 = .ok (.iconst 1, 1) := by decide +kernel
theorem dL_copy_22 : decode cL_copy 22 = .ok (.ireturn, 1) := by decide +kernel
theorem dL_copy_23 : decode cL_copy 23 = .ok (.iconst 0, 1) := by decide +kernel
theorem dL_copy_24 : decode cL_copy 24 = .ok (.ireturn, 1) := by decide +kernel
set_option maxRecDepth 20000 in
theorem ggL_total_X2_total : GoodIn wsL_total wsX2_total := goodIn_ca (goodIn_r _ [6, 7, 8, 9, 5, 10, 11, 12, 13, 14, 15, 16, 17, 18, 19, 20, 21, 22, 23, 24, 25, 26, 27, 28, 29, 30, 31, 32, 33, 34, 35, 36, 37, 38, 39, 40, 41, 42, 43, 44, 45, 46, 47, 48, 49, 50, 51, 52, 53, 54, 55, 56, 57, 58, 59, 60, 61, 62, 63, 64, 65, 66] (by decide +kernel) (by decide +kernel)) (goodIn_sub (fun _ h => List.mem_cons_of_mem _ (List.mem_append_right _ h)) (by decide +kernel))
set_option maxRecDepth 20000 in
theorem gL_total_X2_total : GoodIn wsL_total (wsV RL 94 RX2 yX2_total wsX2_total) := goodIn_app (goodIn_of _ (by decide +kernel)) ggL_total_X2_total
theorem dL_total_0 : decode cL_total 0 = .ok (.aload_n 2, 1) := by decide +kernel
theorem dL_total_1 : decode cL_total 1 = .ok (.iconst 0, 1) := by decide +kernel
theorem dL_total_2 : decode cL_total 2 = .ok (.aload_n 0, 1) := by decide +kernel
theorem dL_total_3 : decode cL_total 3 = .ok (.iload_n 1, 1) := by decide +kernel
theorem dL_total_4 : decode cL_total 4 = .ok (.invokevirtual 94, 3) := by decide +kernel
theorem dL_total_7 : decode cL_total 7 = .ok (.dastore, 1) := by decide +kernel
theorem dL_total_8 : decode cL_total 8 = .ok (.goto 6, 3) := by decide +kernel
theorem dL_total_11 : decode cL_total 11 = .ok (.astore_n 3, 1) := by decide +kernel
theorem dL_total_12 : decode cL_total 12 = .ok (.iconst 1, 1) := by decide +kernel
theorem dL_total_13 : decode cL_total 13 = .ok (.ireturn, 1) := by decide +kernel
theorem dL_total_14 : decode cL_total 14 = .ok (.iconst 0, 1) := by decide +kernel
theorem dL_total_15 : decode cL_total 15 = .ok (.ireturn, 1) := by decide +kernel
set_option maxRecDepth 20000 in
theorem ggL_widened_X2_widened : GoodIn wsL_widened wsX2_widened := goodIn_ca (goodIn_ca (goodIn_ca (goodIn_r _ [8, 9, 10, 11, 12, 13, 14, 15, 16, 7, 17, 18, 19, 20, 21, 22, 23, 24, 25, 26, 27, 28, 29, 30, 31, 32, 33, 34, 35, 36, 37, 38, 39, 40, 41, 42, 43, 44, 45, 46, 47, 48, 49, 50, 51, 52, 53, 54, 55, 56, 57, 58, 59, 60, 61, 62, 63, 64, 65, 66, 67, 68, 69, 70, 71, 72, 73, 74, 75, 76, 77, 78, 79, 80, 81, 82, 83, 84, 85, 86, 87, 88, 89, 90, 91, 92, 93, 94, 95, 96] (by decide +kernel) (by decide +kernel)) (goodIn_sub (fun _ h => List.mem_cons_of_mem _ (List.mem_append_left _ (List.mem_append_left _ (List.mem_append_right _ h)))) (by decide +kernel))) (goodIn_sub (fun _ h => List.mem_cons_of_mem _ (List.mem_append_left _ (List.mem_append_right _ h))) (by decide +kernel))) (goodIn_sub (fun _ h => List.mem_cons_of_mem _ (List.mem_append_right _ h)) (by decide +kernel))
set_option maxRecDepth 20000 in
theorem gL_widened_X2_widened : GoodIn wsL_widened (wsV RL 98 RX2 yX2_widened wsX2_widened) := goodIn_app (goodIn_of _ (by decide +kernel)) ggL_widened_X2_widened
theorem dL_widened_0 : decode cL_widened 0 = .ok (.aload_n 3, 1) := by decide +kernel
theorem dL_widened_1 : decode cL_widened 1 = .ok (.iconst 0, 1) := by decide +kernel
theorem dL_widened_2 : decode cL_widened 2 = .ok (.aload_n 0, 1) := by decide +kernel
theorem dL_widened_3 : decode cL_widened 3 = .ok (.iload_n 1, 1) := by decide +kernel
theorem dL_widened_4 : decode cL_widened 4 = .ok (.iload_n 2, 1) := by decide +kernel
theorem dL_widened_5 : decode cL_widened 5 = .ok (.invokevirtual 98, 3) := by decide +kernel
theorem dL_widened_8 : decode cL_widened 8 = .ok (.i2l, 1) := by decide +kernel
theorem dL_widened_9 : decode cL_widened 9 = .ok (.lastore, 1) := by decide +kernel
theorem dL_widened_10 : decode cL_widened 10 = .ok (.goto 15, 3) := by decide +kernel
theorem dL_widened_13 : decode cL_widened 13 = .ok (.astore 4, 2) := by decide +kernel
theorem dL_widened_15 : decode cL_widened 15 = .ok (.iconst 1, 1) := by decide +kernel
theorem dL_widened_16 : decode cL_widened 16 = .ok (.ireturn, 1) := by decide +kernel
theorem dL_widened_17 : decode cL_widened 17 = .ok (.astore 4, 2) := by decide +kernel
theorem dL_widened_19 : decode cL_widened 19 = .ok (.iconst 2, 1) := by decide +kernel
theorem dL_widened_20 : decode cL_widened 20 = .ok (.ireturn, 1) := by decide +kernel
theorem dL_widened_21 : decode cL_widened 21 = .ok (.astore 4, 2) := by decide +kernel
theorem dL_widened_23 : decode cL_widened 23 = .ok (.iconst 3, 1) := by decide +kernel
theorem dL_widened_24 : decode cL_widened 24 = .ok (.ireturn, 1) := by decide +kernel
theorem dL_widened_25 : decode cL_widened 25 = .ok (.iconst 0, 1) := by decide +kernel
theorem dL_widened_26 : decode cL_widened 26 = .ok (.ireturn, 1) := by decide +kernel
set_option maxRecDepth 20000 in
theorem ggL_count_X2_count : GoodIn wsL_count wsX2_count := goodIn_ca (goodIn_r _ [6, 7, 8, 9, 10, 11, 12, 13, 14] (by decide +kernel) (by decide +kernel)) (goodIn_sub (fun _ h => List.mem_cons_of_mem _ (List.mem_append_right _ h)) (by decide +kernel))
set_option maxRecDepth 20000 in
theorem gL_count_X2_count : GoodIn wsL_count (wsV RL 101 RX2 yX2_count wsX2_count) := goodIn_app (goodIn_of _ (by decide +kernel)) ggL_count_X2_count
theorem dL_count_0 : decode cL_count 0 = .ok (.aload_n 2, 1) := by decide +kernel
theorem dL_count_1 : decode cL_count 1 = .ok (.iconst 0, 1) := by decide +kernel
theorem dL_count_2 : decode cL_count 2 = .ok (.aload_n 0, 1) := by decide +kernel
theorem dL_count_3 : decode cL_count 3 = .ok (.iload_n 1, 1) := by decide +kernel
theorem dL_count_4 : decode cL_count 4 = .ok (.invokevirtual 101, 3) := by decide +kernel
theorem dL_count_7 : decode cL_count 7 = .ok (.i2l, 1) := by decide +kernel
theorem dL_count_8 : decode cL_count 8 = .ok (.lastore, 1) := by decide +kernel
theorem dL_count_9 : decode cL_count 9 = .ok (.goto 6, 3) := by decide +kernel
theorem dL_count_12 : decode cL_count 12 = .ok (.astore_n 3, 1) := by decide +kernel
theorem dL_count_13 : decode cL_count 13 = .ok (.iconst 1, 1) := by decide +kernel
theorem dL_count_14 : decode cL_count 14 = .ok (.ireturn, 1) := by decide +kernel
theorem dL_count_15 : decode cL_count 15 = .ok (.iconst 0, 1) := by decide +kernel
theorem dL_count_16 : decode cL_count 16 = .ok (.ireturn, 1) := by decide +kernel
set_option maxRecDepth 20000 in
theorem ggL_hasCells_X2_hasCells : GoodIn wsL_hasCells wsX2_hasCells := goodIn_ca (goodIn_r _ [6, 7, 8, 5, 9, 10, 11, 12, 13, 14, 15, 16, 17] (by decide +kernel) (by decide +kernel)) (goodIn_sub (fun _ h => List.mem_cons_of_mem _ (List.mem_append_right _ h)) (by decide +kernel))
set_option maxRecDepth 20000 in
theorem gL_hasCells_X2_hasCells : GoodIn wsL_hasCells (wsV RL 104 RX2 yX2_hasCells wsX2_hasCells) := goodIn_app (goodIn_of _ (by decide +kernel)) ggL_hasCells_X2_hasCells
theorem dL_hasCells_0 : decode cL_hasCells 0 = .ok (.aload_n 2, 1) := by decide +kernel
theorem dL_hasCells_1 : decode cL_hasCells 1 = .ok (.iconst 0, 1) := by decide +kernel
theorem dL_hasCells_2 : decode cL_hasCells 2 = .ok (.aload_n 0, 1) := by decide +kernel
theorem dL_hasCells_3 : decode cL_hasCells 3 = .ok (.iload_n 1, 1) := by decide +kernel
theorem dL_hasCells_4 : decode cL_hasCells 4 = .ok (.invokevirtual 104, 3) := by decide +kernel
theorem dL_hasCells_7 : decode cL_hasCells 7 = .ok (.ifCond .eq 7, 3) := by decide +kernel
theorem dL_hasCells_10 : decode cL_hasCells 10 = .ok (.lconst 1, 1) := by decide +kernel
theorem dL_hasCells_11 : decode cL_hasCells 11 = .ok (.goto 4, 3) := by decide +kernel
theorem dL_hasCells_14 : decode cL_hasCells 14 = .ok (.lconst 0, 1) := by decide +kernel
theorem dL_hasCells_15 : decode cL_hasCells 15 = .ok (.lastore, 1) := by decide +kernel
theorem dL_hasCells_16 : decode cL_hasCells 16 = .ok (.goto 6, 3) := by decide +kernel
theorem dL_hasCells_19 : decode cL_hasCells 19 = .ok (.astore_n 3, 1) := by decide +kernel
theorem dL_hasCells_20 : decode cL_hasCells 20 = .ok (.iconst 1, 1) := by decide +kernel
theorem dL_hasCells_21 : decode cL_hasCells 21 = .ok (.ireturn, 1) := by decide +kernel
theorem dL_hasCells_22 : decode cL_hasCells 22 = .ok (.iconst 0, 1) := by decide +kernel
theorem dL_hasCells_23 : decode cL_hasCells 23 = .ok (.ireturn, 1) := by decide +kernel
set_option maxRecDepth 20000 in
theorem ggL_isNumber_X2_isNumber : GoodIn wsL_isNumber wsX2_isNumber := goodIn_ca (goodIn_r _ [6, 7, 8, 5, 9, 10, 11, 12, 13, 14] (by decide +kernel) (by decide +kernel)) (goodIn_sub (fun _ h => List.mem_cons_of_mem _ (List.mem_append_right _ h)) (by decide +kernel))
set_option maxRecDepth 20000 in
theorem gL_isNumber_X2_isNumber : GoodIn wsL_isNumber (wsV RL 108 RX2 yX2_isNumber wsX2_isNumber) := goodIn_app (goodIn_of _ (by decide +kernel)) ggL_isNumber_X2_isNumber
theorem dL_isNumber_0 : decode cL_isNumber 0 = .ok (.aload_n 2, 1) := by decide +kernel
theorem dL_isNumber_1 : decode cL_isNumber 1 = .ok (.iconst 0, 1) := by decide +kernel
theorem dL_isNumber_2 : decode cL_isNumber 2 = .ok (.aload_n 0, 1) := by decide +kernel
theorem dL_isNumber_3 : decode cL_isNumber 3 = .ok (.iload_n 1, 1) := by decide +kernel
theorem dL_isNumber_4 : decode cL_isNumber 4 = .ok (.invokevirtual 108, 3) := by decide +kernel
theorem dL_isNumber_7 : decode cL_isNumber 7 = .ok (.ifCond .eq 7, 3) := by decide +kernel
theorem dL_isNumber_10 : decode cL_isNumber 10 = .ok (.lconst 1, 1) := by decide +kernel
theorem dL_isNumber_11 : decode cL_isNumber 11 = .ok (.goto 4, 3) := by decide +kernel
theorem dL_isNumber_14 : decode cL_isNumber 14 = .ok (.lconst 0, 1) := by decide +kernel
theorem dL_isNumber_15 : decode cL_isNumber 15 = .ok (.lastore, 1) := by decide +kernel
theorem dL_isNumber_16 : decode cL_isNumber 16 = .ok (.goto 6, 3) := by decide +kernel
theorem dL_isNumber_19 : decode cL_isNumber 19 = .ok (.astore_n 3, 1) := by decide +kernel
theorem dL_isNumber_20 : decode cL_isNumber 20 = .ok (.iconst 1, 1) := by decide +kernel
theorem dL_isNumber_21 : decode cL_isNumber 21 = .ok (.ireturn, 1) := by decide +kernel
theorem dL_isNumber_22 : decode cL_isNumber 22 = .ok (.iconst 0, 1) := by decide +kernel
theorem dL_isNumber_23 : decode cL_isNumber 23 = .ok (.ireturn, 1) := by decide +kernel
set_option maxRecDepth 20000 in
theorem ggL_canWiden_X2_canWiden : GoodIn wsL_canWiden wsX2_canWiden := goodIn_ca (goodIn_r _ [6, 7, 8, 5, 9, 10, 11, 12, 13, 14, 15, 16, 17, 18, 19, 20] (by decide +kernel) (by decide +kernel)) (goodIn_sub (fun _ h => List.mem_cons_of_mem _ (List.mem_append_right _ h)) (by decide +kernel))
set_option maxRecDepth 20000 in
theorem gL_canWiden_X2_canWiden : GoodIn wsL_canWiden (wsV RL 111 RX2 yX2_canWiden wsX2_canWiden) := goodIn_app (goodIn_of _ (by decide +kernel)) ggL_canWiden_X2_canWiden
theorem dL_canWiden_0 : decode cL_canWiden 0 = .ok (.aload_n 3, 1) := by decide +kernel
theorem dL_canWiden_1 : decode cL_canWiden 1 = .ok (.iconst 0, 1) := by decide +kernel
theorem dL_canWiden_2 : decode cL_canWiden 2 = .ok (.aload_n 0, 1) := by decide +kernel
theorem dL_canWiden_3 : decode cL_canWiden 3 = .ok (.iload_n 1, 1) := by decide +kernel
theorem dL_canWiden_4 : decode cL_canWiden 4 = .ok (.iload_n 2, 1) := by decide +kernel
theorem dL_canWiden_5 : decode cL_canWiden 5 = .ok (.invokevirtual 111, 3) := by decide +kernel
theorem dL_canWiden_8 : decode cL_canWiden 8 = .ok (.ifCond .eq 7, 3) := by decide +kernel
theorem dL_canWiden_11 : decode cL_canWiden 11 = .ok (.lconst 1, 1) := by decide +kernel
theorem dL_canWiden_12 : decode cL_canWiden 12 = .ok (.goto 4, 3) := by decide +kernel
theorem dL_canWiden_15 : decode cL_canWiden 15 = .ok (.lconst 0, 1) := by decide +kernel
theorem dL_canWiden_16 : decode cL_canWiden 16 = .ok (.lastore, 1) := by decide +kernel
theorem dL_canWiden_17 : decode cL_canWiden 17 = .ok (.goto 7, 3) := by decide +kernel
theorem dL_canWiden_20 : decode cL_canWiden 20 = .ok (.astore 4, 2) := by decide +kernel
theorem dL_canWiden_22 : decode cL_canWiden 22 = .ok (.iconst 1, 1) := by decide +kernel
theorem dL_canWiden_23 : decode cL_canWiden 23 = .ok (.ireturn, 1) := by decide +kernel
theorem dL_canWiden_24 : decode cL_canWiden 24 = .ok (.iconst 0, 1) := by decide +kernel
theorem dL_canWiden_25 : decode cL_canWiden 25 = .ok (.ireturn, 1) := by decide +kernel
set_option maxRecDepth 20000 in
theorem ggL_law_X2_init : GoodIn wsL_law wsX2_init := goodIn_r _ [13, 14, 15, 16, 17, 18, 19, 20, 21, 22, 23, 24, 25, 26, 27, 28, 29, 30, 7, 31, 32, 635, 636, 637, 638, 639, 648] (by decide +kernel) (by decide +kernel)
set_option maxRecDepth 20000 in
theorem gL_law_X2_init : GoodIn wsL_law (wsX2_init) := ggL_law_X2_init
set_option maxRecDepth 20000 in
theorem ggL_law_X3_init : GoodIn wsL_law wsX3_init := goodIn_r _ [35, 36, 15, 16, 19, 37, 38, 6, 39, 7, 40, 41, 640, 641, 642, 643, 644, 645, 646, 647] (by decide +kernel) (by decide +kernel)
set_option maxRecDepth 20000 in
theorem gL_law_X3_init : GoodIn wsL_law (wsX3_init) := ggL_law_X3_init
set_option maxRecDepth 20000 in
theorem ggL_law_L_create : GoodIn wsL_law wsL_create := goodIn_ca (goodIn_ca (goodIn_r _ [45, 46, 47, 48, 49, 50, 2, 51, 52, 53, 17, 54, 55, 56, 57, 58, 59, 60, 61, 62, 63, 64, 65, 66, 67, 68, 69, 70, 25, 18, 71, 72, 73, 74, 15, 16, 75, 76, 6, 77, 7, 78, 79, 80, 81, 82, 83, 84, 649, 650, 651, 652, 635, 636, 637, 638, 639] (by decide +kernel) (by decide +kernel)) (goodIn_sub (fun _ h => List.mem_append_left _ (List.mem_append_left _ (List.mem_append_right _ h))) (by decide +kernel))) (goodIn_sub (fun _ h => List.mem_append_left _ (List.mem_append_right _ h)) (by decide +kernel))
set_option maxRecDepth 20000 in
theorem gL_law_L_create : GoodIn wsL_law (va_wsS RL 118 yL_create wsL_create) := goodIn_app (goodIn_of _ (by decide +kernel)) ggL_law_L_create
set_option maxRecDepth 20000 in
theorem ggL_law_X3_create : GoodIn wsL_law wsX3_create := goodIn_r _ [88, 89, 90, 37, 38, 39, 40, 91, 92, 5, 93, 94, 95, 96, 97, 98, 99, 100, 640, 641, 642, 643, 644, 645, 646, 647] (by decide +kernel) (by decide +kernel)
set_option maxRecDepth 20000 in
theorem gL_law_X3_create : GoodIn wsL_law (wsV RL 123 RX3 yX3_create wsX3_create) := goodIn_app (goodIn_of _ (by decide +kernel)) ggL_law_X3_create
set_option maxRecDepth 20000 in
theorem ggL_law_X3_thrown : GoodIn wsL_law wsX3_thrown := goodIn_r _ [104, 89, 640, 641, 642, 643, 644, 645, 646, 647] (by decide +kernel) (by decide +kernel)
set_option maxRecDepth 20000 in
theorem gL_law_X3_thrown : GoodIn wsL_law (wsV RL 124 RX3 yX3_thrown wsX3_thrown) := goodIn_app (goodIn_of _ (by decide +kernel)) ggL_law_X3_thrown
set_option maxRecDepth 20000 in
theorem ggL_law_X2_columnCount : GoodIn wsL_law wsX2_columnCount := goodIn_r _ [108, 25, 635, 636, 637, 638, 639] (by decide +kernel) (by decide +kernel)
set_option maxRecDepth 20000 in
theorem gL_law_X2_columnCount : GoodIn wsL_law (wsV RL 128 RX2 yX2_columnCount wsX2_columnCount) := goodIn_app (goodIn_of _ (by decide +kernel)) ggL_law_X2_columnCount
set_option maxRecDepth 20000 in
theorem ggL_law_X3_columnCount : GoodIn wsL_law wsX3_columnCount := goodIn_r _ [112, 89, 90, 640, 641, 642, 643, 644, 645, 646, 647] (by decide +kernel) (by decide +kernel)
set_option maxRecDepth 20000 in
theorem gL_law_X3_columnCount : GoodIn wsL_law (wsV RL 131 RX3 yX3_columnCount wsX3_columnCount) := goodIn_app (goodIn_of _ (by decide +kernel)) ggL_law_X3_columnCount
set_option maxRecDepth 20000 in
theorem ggL_law_L_kind : GoodIn wsL_law wsL_kind := goodIn_ca (goodIn_r _ [115, 116, 117, 118, 119, 2, 120, 121, 122, 123, 124, 125, 126, 127, 18, 649, 650, 651, 652, 635, 636, 637, 638, 639] (by decide +kernel) (by decide +kernel)) (goodIn_sub (fun _ h => List.mem_append_right _ h) (by decide +kernel))
set_option maxRecDepth 20000 in
theorem gL_law_L_kind : GoodIn wsL_law (va_wsS RL 132 yL_kind wsL_kind) := goodIn_app (goodIn_of _ (by decide +kernel)) ggL_law_L_kind
set_option maxRecDepth 20000 in
theorem ggL_law_X3_kind : GoodIn wsL_law wsX3_kind := goodIn_r _ [131, 89, 37, 132, 133, 134, 5, 135, 90, 94, 95, 96, 97, 640, 641, 642, 643, 644, 645, 646, 647] (by decide +kernel) (by decide +kernel)
set_option maxRecDepth 20000 in
theorem gL_law_X3_kind : GoodIn wsL_law (wsV RL 135 RX3 yX3_kind wsX3_kind) := goodIn_app (goodIn_of _ (by decide +kernel)) ggL_law_X3_kind
set_option maxRecDepth 20000 in
theorem ggL_law_L_length : GoodIn wsL_law wsL_length := goodIn_ca (goodIn_r _ [138, 116, 139, 140, 141, 2, 142, 143, 122, 123, 124, 125, 126, 127, 18, 144, 145, 146, 121, 147, 148, 149, 150, 20, 26, 649, 650, 651, 652, 635, 636, 637, 638, 639] (by decide +kernel) (by decide +kernel)) (goodIn_sub (fun _ h => List.mem_append_right _ h) (by decide +kernel))
set_option maxRecDepth 20000 in
theorem gL_law_L_length : GoodIn wsL_law (va_wsS RL 136 yL_length wsL_length) := goodIn_app (goodIn_of _ (by decide +kernel)) ggL_law_L_length
set_option maxRecDepth 20000 in
theorem ggL_law_X3_length : GoodIn wsL_law wsX3_length := goodIn_r _ [154, 89, 38, 132, 133, 134, 5, 135, 90, 94, 95, 96, 97, 155, 156, 157, 158, 37, 159, 160, 161, 162, 163, 41, 640, 641, 642, 643, 644, 645, 646, 647] (by decide +kernel) (by decide +kernel)
set_option maxRecDepth 20000 in
theorem gL_law_X3_length : GoodIn wsL_law (wsV RL 138 RX3 yX3_length wsX3_length) := goodIn_app (goodIn_of _ (by decide +kernel)) ggL_law_X3_length
set_option maxRecDepth 20000 in
theorem ggL_law_L_readBoolean : GoodIn wsL_law wsL_readBoolean := goodIn_ca (goodIn_r _ [166, 116, 167, 168, 169, 2, 170, 122, 123, 124, 125, 126, 127, 18, 171, 172, 173, 174, 121, 175, 176, 177, 143, 144, 145, 146, 178, 179, 180, 59, 60, 61, 147, 148, 149, 150, 20, 26, 181, 182, 183, 55, 184, 77, 635, 636, 637, 638, 639, 649, 650, 651, 652] (by decide +kernel) (by decide +kernel)) (goodIn_sub (fun _ h => List.mem_append_right _ h) (by decide +kernel))
set_option maxRecDepth 20000 in
theorem gL_law_L_readBoolean : GoodIn wsL_law (va_wsS RL 139 yL_readBoolean wsL_readBoolean) := goodIn_app (goodIn_of _ (by decide +kernel)) ggL_law_L_readBoolean
set_option maxRecDepth 20000 in
theorem ggL_law_X3_readBoolean : GoodIn wsL_law wsX3_readBoolean := goodIn_r _ [188, 39, 189, 190, 191, 5, 192, 89, 37, 132, 133, 134, 135, 90, 193, 194, 195, 196, 38, 155, 156, 157, 158, 197, 198, 199, 91, 92, 93, 159, 160, 161, 162, 163, 41, 98, 99, 100, 640, 641, 642, 643, 644, 645, 646, 647] (by decide +kernel) (by decide +kernel)
set_option maxRecDepth 20000 in
theorem gL_law_X3_readBoolean : GoodIn wsL_law (wsV RL 141 RX3 yX3_readBoolean wsX3_readBoolean) := goodIn_app (goodIn_of _ (by decide +kernel)) ggL_law_X3_readBoolean
set_option maxRecDepth 20000 in
theorem ggL_law_L_readByte : GoodIn wsL_law wsL_readByte := goodIn_ca (goodIn_r _ [202, 116, 203, 204, 205, 2, 206, 122, 123, 124, 125, 126, 127, 18, 171, 172, 173, 174, 121, 175, 176, 177, 143, 144, 145, 146, 178, 179, 180, 59, 60, 61, 147, 148, 149, 150, 20, 26, 181, 182, 183, 55, 184, 77, 635, 636, 637, 638, 639, 649, 650, 651, 652] (by decide +kernel) (by decide +kernel)) (goodIn_sub (fun _ h => List.mem_append_right _ h) (by decide +kernel))
set_option maxRecDepth 20000 in
theorem gL_law_L_readByte : GoodIn wsL_law (va_wsS RL 142 yL_readByte wsL_readByte) := goodIn_app (goodIn_of _ (by decide +kernel)) ggL_law_L_readByte
set_option maxRecDepth 20000 in
theorem ggL_law_X3_readByte : GoodIn wsL_law wsX3_readByte := goodIn_r _ [210, 39, 189, 190, 191, 5, 192, 89, 37, 132, 133, 134, 135, 90, 193, 194, 195, 196, 38, 155, 156, 157, 158, 197, 198, 199, 91, 92, 93, 159, 160, 161, 162, 163, 41, 98, 99, 100, 640, 641, 642, 643, 644, 645, 646, 647] (by decide +kernel) (by decide +kernel)
set_option maxRecDepth 20000 in
theorem gL_law_X3_readByte : GoodIn wsL_law (wsV RL 144 RX3 yX3_readByte wsX3_readByte) := goodIn_app (goodIn_of _ (by decide +kernel)) ggL_law_X3_readByte
set_option maxRecDepth 20000 in
theorem ggL_law_L_readChar : GoodIn wsL_law wsL_readChar := goodIn_ca (goodIn_r _ [213, 116, 214, 215, 216, 2, 217, 122, 123, 124, 125, 126, 127, 18, 171, 172, 173, 174, 121, 175, 176, 177, 143, 144, 145, 146, 178, 179, 180, 59, 60, 61, 147, 148, 149, 150, 20, 26, 181, 182, 183, 55, 184, 77, 635, 636, 637, 638, 639, 649, 650, 651, 652] (by decide +kernel) (by decide +kernel)) (goodIn_sub (fun _ h => List.mem_append_right _ h) (by decide +kernel))
set_option maxRecDepth 20000 in
theorem gL_law_L_readChar : GoodIn wsL_law (va_wsS RL 145 yL_readChar wsL_readChar) := goodIn_app (goodIn_of _ (by decide +kernel)) ggL_law_L_readChar
set_option maxRecDepth 20000 in
theorem ggL_law_X3_readChar : GoodIn wsL_law wsX3_readChar := goodIn_r _ [221, 39, 189, 190, 191, 5, 192, 89, 37, 132, 133, 134, 135, 90, 193, 194, 195, 196, 38, 155, 156, 157, 158, 197, 198, 199, 91, 92, 93, 159, 160, 161, 162, 163, 41, 98, 99, 100, 640, 641, 642, 643, 644, 645, 646, 647] (by decide +kernel) (by decide +kernel)
set_option maxRecDepth 20000 in
theorem gL_law_X3_readChar : GoodIn wsL_law (wsV RL 147 RX3 yX3_readChar wsX3_readChar) := goodIn_app (goodIn_of _ (by decide +kernel)) ggL_law_X3_readChar
set_option maxRecDepth 20000 in
theorem ggL_law_L_readShort : GoodIn wsL_law wsL_readShort := goodIn_ca (goodIn_r _ [224, 116, 225, 226, 227, 2, 228, 122, 123, 124, 125, 126, 127, 18, 171, 172, 173, 174, 121, 175, 176, 177, 143, 144, 145, 146, 178, 179, 180, 59, 60, 61, 147, 148, 149, 150, 20, 26, 181, 182, 183, 55, 184, 77, 635, 636, 637, 638, 639, 649, 650, 651, 652] (by decide +kernel) (by decide +kernel)) (goodIn_sub (fun _ h => List.mem_append_right _ h) (by decide +kernel))
set_option maxRecDepth 20000 in
theorem gL_law_L_readShort : GoodIn wsL_law (va_wsS RL 148 yL_readShort wsL_readShort) := goodIn_app (goodIn_of _ (by decide +kernel)) ggL_law_L_readShort
set_option maxRecDepth 20000 in
theorem ggL_law_X3_readShort : GoodIn wsL_law wsX3_readShort := goodIn_r _ [232, 39, 189, 190, 191, 5, 192, 89, 37, 132, 133, 134, 135, 90, 193, 194, 195, 196, 38, 155, 156, 157, 158, 197, 198, 199, 91, 92, 93, 159, 160, 161, 162, 163, 41, 98, 99, 100, 640, 641, 642, 643, 644, 645, 646, 647] (by decide +kernel) (by decide +kernel)
set_option maxRecDepth 20000 in
theorem gL_law_X3_readShort : GoodIn wsL_law (wsV RL 150 RX3 yX3_readShort wsX3_readShort) := goodIn_app (goodIn_of _ (by decide +kernel)) ggL_law_X3_readShort
set_option maxRecDepth 20000 in
theorem ggL_law_L_readInt : GoodIn wsL_law wsL_readInt := goodIn_ca (goodIn_r _ [235, 116, 236, 237, 238, 2, 239, 122, 123, 124, 125, 126, 127, 18, 171, 172, 173, 174, 121, 175, 176, 177, 143, 144, 145, 146, 178, 179, 180, 59, 60, 61, 147, 148, 149, 150, 20, 26, 181, 182, 183, 55, 184, 77, 635, 636, 637, 638, 639, 649, 650, 651, 652] (by decide +kernel) (by decide +kernel)) (goodIn_sub (fun _ h => List.mem_append_right _ h) (by decide +kernel))
set_option maxRecDepth 20000 in
theorem gL_law_L_readInt : GoodIn wsL_law (va_wsS RL 151 yL_readInt wsL_readInt) := goodIn_app (goodIn_of _ (by decide +kernel)) ggL_law_L_readInt
set_option maxRecDepth 20000 in
theorem ggL_law_X3_readInt : GoodIn wsL_law wsX3_readInt := goodIn_r _ [243, 39, 189, 190, 191, 5, 192, 89, 37, 132, 133, 134, 135, 90, 193, 194, 195, 196, 38, 155, 156, 157, 158, 197, 198, 199, 91, 92, 93, 159, 160, 161, 162, 163, 41, 98, 99, 100, 640, 641, 642, 643, 644, 645, 646, 647] (by decide +kernel) (by decide +kernel)
set_option maxRecDepth 20000 in
theorem gL_law_X3_readInt : GoodIn wsL_law (wsV RL 153 RX3 yX3_readInt wsX3_readInt) := goodIn_app (goodIn_of _ (by decide +kernel)) ggL_law_X3_readInt
set_option maxRecDepth 20000 in
theorem ggL_law_L_readLong : GoodIn wsL_law wsL_readLong := goodIn_ca (goodIn_r _ [246, 116, 247, 248, 249, 2, 250, 122, 123, 124, 125, 126, 127, 18, 171, 172, 173, 174, 121, 175, 176, 177, 143, 144, 145, 146, 178, 179, 180, 59, 60, 61, 147, 148, 149, 150, 20, 26, 181, 182, 183, 55, 184, 77, 635, 636, 637, 638, 639, 649, 650, 651, 652] (by decide +kernel) (by decide +kernel)) (goodIn_sub (fun _ h => List.mem_append_right _ h) (by decide +kernel))
set_option maxRecDepth 20000 in
theorem gL_law_L_readLong : GoodIn wsL_law (va_wsS RL 154 yL_readLong wsL_readLong) := goodIn_app (goodIn_of _ (by decide +kernel)) ggL_law_L_readLong
set_option maxRecDepth 20000 in
theorem ggL_law_X3_readLong : GoodIn wsL_law wsX3_readLong := goodIn_r _ [254, 39, 189, 190, 191, 5, 192, 89, 37, 132, 133, 134, 135, 90, 193, 194, 195, 196, 38, 155, 156, 157, 158, 197, 198, 199, 91, 92, 93, 159, 160, 161, 162, 163, 41, 98, 99, 100, 640, 641, 642, 643, 644, 645, 646, 647] (by decide +kernel) (by decide +kernel)
set_option maxRecDepth 20000 in
theorem gL_law_X3_readLong : GoodIn wsL_law (wsV RL 156 RX3 yX3_readLong wsX3_readLong) := goodIn_app (goodIn_of _ (by decide +kernel)) ggL_law_X3_readLong
set_option maxRecDepth 20000 in
theorem ggL_law_L_readFloat : GoodIn wsL_law wsL_readFloat := goodIn_ca (goodIn_r _ [257, 116, 258, 259, 260, 2, 261, 121, 122, 123, 124, 125, 126, 127, 18, 175, 176, 177, 143, 144, 145, 146, 178, 179, 180, 59, 60, 61, 147, 148, 149, 150, 20, 26, 262, 263, 264, 55, 265, 75, 79, 80, 266, 267, 268, 269, 78, 270, 271, 272, 273, 274, 275, 276, 182, 183, 184, 77, 649, 650, 651, 652, 635, 636, 637, 638, 639] (by decide +kernel) (by decide +kernel)) (goodIn_sub (fun _ h => List.mem_append_right _ h) (by decide +kernel))
set_option maxRecDepth 20000 in
theorem gL_law_L_readFloat : GoodIn wsL_law (va_wsS RL 157 yL_readFloat wsL_readFloat) := goodIn_app (goodIn_of _ (by decide +kernel)) ggL_law_L_readFloat
set_option maxRecDepth 20000 in
theorem ggL_law_X3_readFloat : GoodIn wsL_law wsX3_readFloat := goodIn_r _ [280, 37, 40, 39, 189, 190, 191, 5, 192, 89, 132, 133, 134, 135, 90, 193, 194, 195, 196, 38, 155, 156, 157, 158, 197, 198, 199, 91, 92, 93, 159, 160, 161, 162, 163, 41, 281, 282, 283, 98, 99, 100, 640, 641, 642, 643, 644, 645, 646, 647] (by decide +kernel) (by decide +kernel)
set_option maxRecDepth 20000 in
theorem gL_law_X3_readFloat : GoodIn wsL_law (wsV RL 160 RX3 yX3_readFloat wsX3_readFloat) := goodIn_app (goodIn_of _ (by decide +kernel)) ggL_law_X3_readFloat
set_option maxRecDepth 20000 in
theorem ggL_law_L_readDouble : GoodIn wsL_law wsL_readDouble := goodIn_ca (goodIn_r _ [286, 116, 287, 288, 289, 2, 290, 122, 123, 124, 125, 126, 127, 18, 291, 292, 293, 294, 121, 175, 176, 177, 143, 144, 145, 146, 178, 179, 180, 59, 60, 61, 147, 148, 149, 150, 20, 26, 295, 296, 297, 55, 298, 75, 79, 80, 266, 267, 268, 269, 78, 276, 182, 183, 184, 77, 635, 636, 637, 638, 639, 649, 650, 651, 652] (by decide +kernel) (by decide +kernel)) (goodIn_sub (fun _ h => List.mem_append_right _ h) (by decide +kernel))
set_option maxRecDepth 20000 in
theorem gL_law_L_readDouble : GoodIn wsL_law (va_wsS RL 161 yL_readDouble wsL_readDouble) := goodIn_app (goodIn_of _ (by decide +kernel)) ggL_law_L_readDouble
set_option maxRecDepth 20000 in
theorem ggL_law_X3_readDouble : GoodIn wsL_law wsX3_readDouble := goodIn_r _ [302, 189, 190, 191, 5, 192, 89, 37, 132, 133, 134, 135, 90, 193, 194, 195, 196, 38, 155, 156, 157, 158, 197, 198, 199, 91, 92, 93, 159, 160, 161, 162, 163, 41, 303, 304, 305, 306, 40, 39, 281, 282, 283, 98, 99, 100, 640, 641, 642, 643, 644, 645, 646, 647] (by decide +kernel) (by decide +kernel)
set_option maxRecDepth 20000 in
theorem gL_law_X3_readDouble : GoodIn wsL_law (wsV RL 163 RX3 yX3_readDouble wsX3_readDouble) := goodIn_app (goodIn_of _ (by decide +kernel)) ggL_law_X3_readDouble
set_option maxRecDepth 20000 in
theorem ggL_law_L_readAny : GoodIn wsL_law wsL_readAny := goodIn_ca (goodIn_r _ [309, 116, 310, 311, 312, 2, 313, 121, 122, 123, 124, 125, 126, 127, 18, 291, 292, 293, 294, 175, 176, 177, 143, 144, 145, 146, 178, 179, 180, 59, 60, 61, 147, 148, 149, 150, 20, 26, 295, 296, 297, 55, 298, 75, 79, 80, 266, 267, 268, 269, 78, 276, 182, 183, 184, 77, 649, 650, 651, 652, 635, 636, 637, 638, 639] (by decide +kernel) (by decide +kernel)) (goodIn_sub (fun _ h => List.mem_append_right _ h) (by decide +kernel))
set_option maxRecDepth 20000 in
theorem gL_law_L_readAny : GoodIn wsL_law (va_wsS RL 164 yL_readAny wsL_readAny) := goodIn_app (goodIn_of _ (by decide +kernel)) ggL_law_L_readAny
set_option maxRecDepth 20000 in
theorem ggL_law_X3_readAny : GoodIn wsL_law wsX3_readAny := goodIn_r _ [317, 89, 132, 133, 134, 5, 135, 90, 193, 194, 195, 196, 38, 155, 156, 157, 158, 37, 159, 160, 161, 162, 163, 41, 303, 304, 305, 306, 40, 39, 281, 282, 283, 98, 99, 100, 640, 641, 642, 643, 644, 645, 646, 647] (by decide +kernel) (by decide +kernel)
set_option maxRecDepth 20000 in
theorem gL_law_X3_readAny : GoodIn wsL_law (wsV RL 166 RX3 yX3_readAny wsX3_readAny) := goodIn_app (goodIn_of _ (by decide +kernel)) ggL_law_X3_readAny
set_option maxRecDepth 20000 in
theorem ggL_law_L_writeBoolean : GoodIn wsL_law wsL_writeBoolean := goodIn_ca (goodIn_r _ [320, 116, 321, 322, 323, 2, 324, 122, 123, 124, 125, 126, 127, 18, 325, 326, 327, 328, 121, 175, 176, 177, 143, 144, 145, 146, 178, 179, 180, 59, 60, 61, 147, 148, 149, 150, 20, 26, 329, 330, 331, 55, 332, 75, 77, 333, 334, 335, 336, 78, 635, 636, 637, 638, 639, 649, 650, 651, 652] (by decide +kernel) (by decide +kernel)) (goodIn_sub (fun _ h => List.mem_append_right _ h) (by decide +kernel))
set_option maxRecDepth 20000 in
theorem gL_law_L_writeBoolean : GoodIn wsL_law (va_wsS RL 167 yL_writeBoolean wsL_writeBoolean) := goodIn_app (goodIn_of _ (by decide +kernel)) ggL_law_L_writeBoolean
set_option maxRecDepth 20000 in
theorem ggL_law_X3_writeBoolean : GoodIn wsL_law wsX3_writeBoolean := goodIn_r _ [340, 341, 342, 343, 5, 344, 89, 37, 163, 39, 40, 132, 133, 134, 135, 90, 193, 194, 195, 196, 38, 155, 156, 157, 158, 197, 198, 199, 91, 92, 93, 159, 160, 161, 162, 41, 281, 282, 283, 98, 99, 100, 640, 641, 642, 643, 644, 645, 646, 647] (by decide +kernel) (by decide +kernel)
set_option maxRecDepth 20000 in
theorem gL_law_X3_writeBoolean : GoodIn wsL_law (wsV RL 170 RX3 yX3_writeBoolean wsX3_writeBoolean) := goodIn_app (goodIn_of _ (by decide +kernel)) ggL_law_X3_writeBoolean
set_option maxRecDepth 20000 in
theorem ggL_law_L_writeByte : GoodIn wsL_law wsL_writeByte := goodIn_ca (goodIn_r _ [347, 116, 348, 349, 350, 2, 351, 122, 123, 124, 125, 126, 127, 18, 325, 326, 327, 328, 121, 175, 176, 177, 143, 144, 145, 146, 178, 179, 180, 59, 60, 61, 147, 148, 149, 150, 20, 26, 329, 330, 331, 55, 332, 75, 77, 333, 334, 335, 336, 78, 635, 636, 637, 638, 639, 649, 650, 651, 652] (by decide +kernel) (by decide +kernel)) (goodIn_sub (fun _ h => List.mem_append_right _ h) (by decide +kernel))
set_option maxRecDepth 20000 in
theorem gL_law_L_writeByte : GoodIn wsL_law (va_wsS RL 171 yL_writeByte wsL_writeByte) := goodIn_app (goodIn_of _ (by decide +kernel)) ggL_law_L_writeByte
set_option maxRecDepth 20000 in
theorem ggL_law_X3_writeByte : GoodIn wsL_law wsX3_writeByte := goodIn_r _ [355, 341, 342, 343, 5, 344, 89, 37, 163, 39, 40, 132, 133, 134, 135, 90, 193, 194, 195, 196, 38, 155, 156, 157, 158, 197, 198, 199, 91, 92, 93, 159, 160, 161, 162, 41, 281, 282, 283, 98, 99, 100, 640, 641, 642, 643, 644, 645, 646, 647] (by decide +kernel) (by decide +kernel)
set_option maxRecDepth 20000 in
theorem gL_law_X3_writeByte : GoodIn wsL_law (wsV RL 174 RX3 yX3_writeByte wsX3_writeByte) := goodIn_app (goodIn_of _ (by decide +kernel)) ggL_law_X3_writeByte
set_option maxRecDepth 20000 in
theorem ggL_law_L_writeChar : GoodIn wsL_law wsL_writeChar := goodIn_ca (goodIn_r _ [358, 116, 359, 360, 361, 2, 362, 122, 123, 124, 125, 126, 127, 18, 325, 326, 327, 328, 121, 175, 176, 177, 143, 144, 145, 146, 178, 179, 180, 59, 60, 61, 147, 148, 149, 150, 20, 26, 329, 330, 331, 55, 332, 75, 77, 333, 334, 335, 336, 78, 635, 636, 637, 638, 639, 649, 650, 651, 652] (by decide +kernel) (by decide +kernel)) (goodIn_sub (fun _ h => List.mem_append_right _ h) (by decide +kernel))
set_option maxRecDepth 20000 in
theorem gL_law_L_writeChar : GoodIn wsL_law (va_wsS RL 175 yL_writeChar wsL_writeChar) := goodIn_app (goodIn_of _ (by decide +kernel)) ggL_law_L_writeChar
set_option maxRecDepth 20000 in
theorem ggL_law_X3_writeChar : GoodIn wsL_law wsX3_writeChar := goodIn_r _ [366, 367, 341, 342, 343, 5, 344, 89, 37, 163, 39, 40, 132, 133, 134, 135, 90, 193, 194, 195, 196, 38, 155, 156, 157, 158, 197, 198, 199, 91, 92, 93, 159, 160, 161, 162, 41, 281, 282, 283, 98, 99, 100, 640, 641, 642, 643, 644, 645, 646, 647] (by decide +kernel) (by decide +kernel)
set_option maxRecDepth 20000 in
theorem gL_law_X3_writeChar : GoodIn wsL_law (wsV RL 177 RX3 yX3_writeChar wsX3_writeChar) := goodIn_app (goodIn_of _ (by decide +kernel)) ggL_law_X3_writeChar
set_option maxRecDepth 20000 in
theorem ggL_law_L_writeShort : GoodIn wsL_law wsL_writeShort := goodIn_ca (goodIn_r _ [370, 116, 371, 372, 373, 2, 374, 122, 123, 124, 125, 126, 127, 18, 325, 326, 327, 328, 121, 175, 176, 177, 143, 144, 145, 146, 178, 179, 180, 59, 60, 61, 147, 148, 149, 150, 20, 26, 329, 330, 331, 55, 332, 75, 77, 333, 334, 335, 336, 78, 635, 636, 637, 638, 639, 649, 650, 651, 652] (by decide +kernel) (by decide +kernel)) (goodIn_sub (fun _ h => List.mem_append_right _ h) (by decide +kernel))
set_option maxRecDepth 20000 in
theorem gL_law_L_writeShort : GoodIn wsL_law (va_wsS RL 178 yL_writeShort wsL_writeShort) := goodIn_app (goodIn_of _ (by decide +kernel)) ggL_law_L_writeShort
set_option maxRecDepth 20000 in
theorem ggL_law_X3_writeShort : GoodIn wsL_law wsX3_writeShort := goodIn_r _ [378, 341, 342, 343, 5, 344, 89, 37, 163, 39, 40, 132, 133, 134, 135, 90, 193, 194, 195, 196, 38, 155, 156, 157, 158, 197, 198, 199, 91, 92, 93, 159, 160, 161, 162, 41, 281, 282, 283, 98, 99, 100, 640, 641, 642, 643, 644, 645, 646, 647] (by decide +kernel) (by decide +kernel)
set_option maxRecDepth 20000 in
theorem gL_law_X3_writeShort : GoodIn wsL_law (wsV RL 180 RX3 yX3_writeShort wsX3_writeShort) := goodIn_app (goodIn_of _ (by decide +kernel)) ggL_law_X3_writeShort
set_option maxRecDepth 20000 in
theorem ggL_law_L_writeInt : GoodIn wsL_law wsL_writeInt := goodIn_ca (goodIn_r _ [381, 116, 382, 383, 384, 2, 385, 122, 123, 124, 125, 126, 127, 18, 325, 326, 327, 328, 121, 175, 176, 177, 143, 144, 145, 146, 178, 179, 180, 59, 60, 61, 147, 148, 149, 150, 20, 26, 329, 330, 331, 55, 332, 75, 77, 333, 334, 335, 336, 78, 635, 636, 637, 638, 639, 649, 650, 651, 652] (by decide +kernel) (by decide +kernel)) (goodIn_sub (fun _ h => List.mem_append_right _ h) (by decide +kernel))
set_option maxRecDepth 20000 in
theorem gL_law_L_writeInt : GoodIn wsL_law (va_wsS RL 181 yL_writeInt wsL_writeInt) := goodIn_app (goodIn_of _ (by decide +kernel)) ggL_law_L_writeInt
set_option maxRecDepth 20000 in
theorem ggL_law_X3_writeInt : GoodIn wsL_law wsX3_writeInt := goodIn_r _ [389, 341, 342, 343, 5, 344, 89, 37, 163, 39, 40, 132, 133, 134, 135, 90, 193, 194, 195, 196, 38, 155, 156, 157, 158, 197, 198, 199, 91, 92, 93, 159, 160, 161, 162, 41, 281, 282, 283, 98, 99, 100, 640, 641, 642, 643, 644, 645, 646, 647] (by decide +kernel) (by decide +kernel)
set_option maxRecDepth 20000 in
theorem gL_law_X3_writeInt : GoodIn wsL_law (wsV RL 183 RX3 yX3_writeInt wsX3_writeInt) := goodIn_app (goodIn_of _ (by decide +kernel)) ggL_law_X3_writeInt
set_option maxRecDepth 20000 in
theorem ggL_law_L_writeLong : GoodIn wsL_law wsL_writeLong := goodIn_ca (goodIn_r _ [392, 116, 393, 394, 395, 2, 396, 122, 123, 124, 125, 126, 127, 18, 325, 326, 327, 328, 121, 175, 176, 177, 143, 144, 145, 146, 178, 179, 180, 59, 60, 61, 147, 148, 149, 150, 20, 26, 329, 330, 331, 55, 332, 75, 77, 333, 334, 335, 336, 78, 635, 636, 637, 638, 639, 649, 650, 651, 652] (by decide +kernel) (by decide +kernel)) (goodIn_sub (fun _ h => List.mem_append_right _ h) (by decide +kernel))
set_option maxRecDepth 20000 in
theorem gL_law_L_writeLong : GoodIn wsL_law (va_wsS RL 186 yL_writeLong wsL_writeLong) := goodIn_app (goodIn_of _ (by decide +kernel)) ggL_law_L_writeLong
set_option maxRecDepth 20000 in
theorem ggL_law_X3_writeLong : GoodIn wsL_law wsX3_writeLong := goodIn_r _ [400, 341, 342, 343, 5, 344, 89, 37, 163, 39, 40, 132, 133, 134, 135, 90, 193, 194, 195, 196, 38, 155, 156, 157, 158, 197, 198, 199, 91, 92, 93, 159, 160, 161, 162, 41, 281, 282, 283, 98, 99, 100, 640, 641, 642, 643, 644, 645, 646, 647] (by decide +kernel) (by decide +kernel)
set_option maxRecDepth 20000 in
theorem gL_law_X3_writeLong : GoodIn wsL_law (wsV RL 189 RX3 yX3_writeLong wsX3_writeLong) := goodIn_app (goodIn_of _ (by decide +kernel)) ggL_law_X3_writeLong
set_option maxRecDepth 20000 in
theorem ggL_law_L_writeFloat : GoodIn wsL_law wsL_writeFloat := goodIn_ca (goodIn_r _ [403, 116, 404, 405, 406, 2, 407, 122, 123, 124, 125, 126, 127, 18, 408, 409, 410, 411, 412, 413, 414, 415, 416, 417, 418, 121, 175, 176, 177, 143, 144, 145, 146, 178, 179, 180, 59, 60, 61, 147, 148, 149, 150, 20, 26, 419, 334, 335, 55, 336, 78, 635, 636, 637, 638, 639, 649, 650, 651, 652] (by decide +kernel) (by decide +kernel)) (goodIn_sub (fun _ h => List.mem_append_right _ h) (by decide +kernel))
set_option maxRecDepth 20000 in
theorem gL_law_L_writeFloat : GoodIn wsL_law (va_wsS RL 191 yL_writeFloat wsL_writeFloat) := goodIn_app (goodIn_of _ (by decide +kernel)) ggL_law_L_writeFloat
set_option maxRecDepth 20000 in
theorem ggL_law_X3_writeFloat : GoodIn wsL_law wsX3_writeFloat := goodIn_r _ [423, 341, 342, 343, 5, 344, 89, 37, 163, 39, 40, 132, 133, 134, 135, 90, 193, 194, 195, 196, 38, 155, 156, 157, 158, 197, 198, 199, 91, 92, 93, 159, 160, 161, 162, 41, 281, 282, 283, 98, 99, 100, 640, 641, 642, 643, 644, 645, 646, 647] (by decide +kernel) (by decide +kernel)
set_option maxRecDepth 20000 in
theorem gL_law_X3_writeFloat : GoodIn wsL_law (wsV RL 194 RX3 yX3_writeFloat wsX3_writeFloat) := goodIn_app (goodIn_of _ (by decide +kernel)) ggL_law_X3_writeFloat
set_option maxRecDepth 20000 in
theorem ggL_law_L_writeDouble : GoodIn wsL_law wsL_writeDouble := goodIn_ca (goodIn_r _ [426, 116, 427, 428, 429, 2, 430, 122, 123, 124, 125, 126, 127, 18, 415, 416, 417, 418, 121, 175, 176, 177, 143, 144, 145, 146, 178, 179, 180, 59, 60, 61, 147, 148, 149, 150, 20, 26, 419, 334, 335, 55, 336, 78, 635, 636, 637, 638, 639, 649, 650, 651, 652] (by decide +kernel) (by decide +kernel)) (goodIn_sub (fun _ h => List.mem_append_right _ h) (by decide +kernel))
set_option maxRecDepth 20000 in
theorem gL_law_L_writeDouble : GoodIn wsL_law (va_wsS RL 197 yL_writeDouble wsL_writeDouble) := goodIn_app (goodIn_of _ (by decide +kernel)) ggL_law_L_writeDouble
set_option maxRecDepth 20000 in
theorem ggL_law_X3_writeDouble : GoodIn wsL_law wsX3_writeDouble := goodIn_r _ [434, 341, 342, 343, 5, 344, 89, 37, 163, 39, 40, 132, 133, 134, 135, 90, 193, 194, 195, 196, 38, 155, 156, 157, 158, 197, 198, 199, 91, 92, 93, 159, 160, 161, 162, 41, 281, 282, 283, 98, 99, 100, 640, 641, 642, 643, 644, 645, 646, 647] (by decide +kernel) (by decide +kernel)
set_option maxRecDepth 20000 in
theorem gL_law_X3_writeDouble : GoodIn wsL_law (wsV RL 200 RX3 yX3_writeDouble wsX3_writeDouble) := goodIn_app (goodIn_of _ (by decide +kernel)) ggL_law_X3_writeDouble
set_option maxRecDepth 20000 in
theorem ggL_law_L_writeAny : GoodIn wsL_law wsL_writeAny := goodIn_ca (goodIn_ca (goodIn_r _ [437, 116, 46, 438, 439, 440, 2, 441, 122, 123, 124, 125, 126, 127, 18, 442, 443, 444, 52, 53, 59, 60, 61, 415, 416, 417, 418, 121, 175, 176, 177, 143, 144, 145, 146, 178, 179, 180, 147, 148, 149, 150, 20, 26, 419, 334, 335, 55, 336, 78, 445, 446, 447, 325, 326, 327, 328, 329, 330, 331, 332, 75, 77, 333, 635, 636, 637, 638, 639, 649, 650, 651, 652] (by decide +kernel) (by decide +kernel)) (goodIn_sub (fun _ h => List.mem_append_right _ h) (by decide +kernel))) (goodIn_sub (fun _ h => List.mem_append_left _ (List.mem_append_left _ (List.mem_append_right _ h))) (by decide +kernel))
set_option maxRecDepth 20000 in
theorem gL_law_L_writeAny : GoodIn wsL_law (va_wsS RL 201 yL_writeAny wsL_writeAny) := goodIn_app (goodIn_of _ (by decide +kernel)) ggL_law_L_writeAny
set_option maxRecDepth 20000 in
theorem ggL_law_X3_writeAny : GoodIn wsL_law wsX3_writeAny := goodIn_r _ [451, 89, 132, 133, 134, 5, 135, 90, 94, 95, 96, 97, 452, 338, 339, 340, 341, 342, 343, 344, 37, 163, 39, 40, 193, 194, 195, 196, 38, 155, 156, 157, 158, 197, 198, 199, 91, 92, 93, 159, 160, 161, 162, 41, 281, 282, 283, 98, 99, 100, 453, 353, 354, 355, 454, 364, 365, 366, 367, 455, 376, 377, 378, 456, 387, 388, 389, 457, 398, 399, 400, 458, 421, 422, 423, 459, 432, 433, 434, 640, 641, 642, 643, 644, 645, 646, 647] (by decide +kernel) (by decide +kernel)
set_option maxRecDepth 20000 in
theorem gL_law_X3_writeAny : GoodIn wsL_law (wsV RL 204 RX3 yX3_writeAny wsX3_writeAny) := goodIn_app (goodIn_of _ (by decide +kernel)) ggL_law_X3_writeAny
set_option maxRecDepth 20000 in
theorem ggL_law_L_copy : GoodIn wsL_law wsL_copy := goodIn_ca (goodIn_r _ [462, 116, 463, 464, 465, 2, 466, 143, 122, 123, 124, 125, 126, 127, 18, 467, 468, 469, 121, 470, 471, 472, 473, 474, 475, 55, 476, 77, 477, 478, 479, 480, 78, 147, 148, 149, 150, 20, 26, 649, 650, 651, 652, 635, 636, 637, 638, 639] (by decide +kernel) (by decide +kernel)) (goodIn_sub (fun _ h => List.mem_append_right _ h) (by decide +kernel))
set_option maxRecDepth 20000 in
theorem gL_law_L_copy : GoodIn wsL_law (va_wsS RL 205 yL_copy wsL_copy) := goodIn_app (goodIn_of _ (by decide +kernel)) ggL_law_L_copy
set_option maxRecDepth 20000 in
theorem ggL_law_X3_copy : GoodIn wsL_law wsX3_copy := goodIn_r _ [484, 89, 37, 38, 163, 39, 40, 132, 133, 134, 5, 135, 90, 94, 95, 96, 97, 159, 160, 161, 162, 41, 98, 99, 100, 640, 641, 642, 643, 644, 645, 646, 647] (by decide +kernel) (by decide +kernel)
set_option maxRecDepth 20000 in
theorem gL_law_X3_copy : GoodIn wsL_law (wsV RL 208 RX3 yX3_copy wsX3_copy) := goodIn_app (goodIn_of _ (by decide +kernel)) ggL_law_X3_copy
set_option maxRecDepth 20000 in
theorem ggL_law_L_total : GoodIn wsL_law wsL_total := goodIn_ca (goodIn_r _ [487, 116, 488, 489, 490, 2, 491, 122, 123, 124, 125, 126, 127, 18, 144, 145, 146, 121, 147, 148, 149, 150, 20, 26, 492, 493, 494, 55, 495, 76, 496, 296, 297, 298, 75, 79, 80, 266, 267, 268, 269, 78, 276, 182, 183, 184, 77, 497, 498, 499, 500, 501, 502, 503, 411, 412, 413, 414, 635, 636, 637, 638, 639, 649, 650, 651, 652] (by decide +kernel) (by decide +kernel)) (goodIn_sub (fun _ h => List.mem_append_right _ h) (by decide +kernel))
set_option maxRecDepth 20000 in
theorem gL_law_L_total : GoodIn wsL_law (va_wsS RL 209 yL_total wsL_total) := goodIn_app (goodIn_of _ (by decide +kernel)) ggL_law_L_total
set_option maxRecDepth 20000 in
theorem ggL_law_X3_total : GoodIn wsL_law wsX3_total := goodIn_r _ [507, 89, 38, 132, 133, 134, 5, 135, 90, 155, 156, 157, 158, 37, 159, 160, 161, 162, 163, 41, 303, 304, 305, 306, 40, 39, 281, 282, 283, 98, 99, 100, 640, 641, 642, 643, 644, 645, 646, 647] (by decide +kernel) (by decide +kernel)
set_option maxRecDepth 20000 in
theorem gL_law_X3_total : GoodIn wsL_law (wsV RL 212 RX3 yX3_total wsX3_total) := goodIn_app (goodIn_of _ (by decide +kernel)) ggL_law_X3_total
set_option maxRecDepth 20000 in
theorem ggL_law_L_widened : GoodIn wsL_law wsL_widened := goodIn_ca (goodIn_ca (goodIn_ca (goodIn_r _ [510, 116, 46, 47, 511, 512, 513, 2, 514, 121, 17, 54, 55, 143, 122, 123, 124, 125, 126, 127, 18, 442, 443, 444, 52, 53, 59, 60, 61, 65, 66, 67, 68, 69, 70, 25, 144, 145, 146, 178, 179, 180, 147, 148, 149, 150, 20, 26, 71, 72, 73, 74, 15, 16, 75, 76, 6, 77, 7, 78, 63, 64, 79, 80, 515, 516, 517, 518, 266, 267, 268, 269, 333, 334, 335, 336, 276, 182, 183, 184, 519, 330, 331, 332, 81, 82, 83, 84, 649, 650, 651, 652, 635, 636, 637, 638, 639] (by decide +kernel) (by decide +kernel)) (goodIn_sub (fun _ h => List.mem_append_right _ h) (by decide +kernel))) (goodIn_sub (fun _ h => List.mem_append_left _ (List.mem_append_left _ (List.mem_append_right _ h))) (by decide +kernel))) (goodIn_sub (fun _ h => List.mem_append_left _ (List.mem_append_right _ h)) (by decide +kernel))
set_option maxRecDepth 20000 in
theorem gL_law_L_widened : GoodIn wsL_law (va_wsS RL 213 yL_widened wsL_widened) := goodIn_app (goodIn_of _ (by decide +kernel)) ggL_law_L_widened
set_option maxRecDepth 20000 in
theorem ggL_law_X3_widened : GoodIn wsL_law wsX3_widened := goodIn_r _ [523, 89, 90, 37, 38, 39, 40, 132, 133, 134, 5, 135, 94, 95, 96, 97, 91, 92, 93, 155, 156, 157, 158, 197, 198, 199, 159, 160, 161, 162, 163, 41, 524, 86, 87, 88, 98, 99, 100, 281, 282, 283, 640, 641, 642, 643, 644, 645, 646, 647] (by decide +kernel) (by decide +kernel)
set_option maxRecDepth 20000 in
theorem gL_law_X3_widened : GoodIn wsL_law (wsV RL 215 RX3 yX3_widened wsX3_widened) := goodIn_app (goodIn_of _ (by decide +kernel)) ggL_law_X3_widened
set_option maxRecDepth 20000 in
theorem ggL_law_X2_code : GoodIn wsL_law wsX2_code := goodIn_r _ [528, 26, 635, 636, 637, 638, 639] (by decide +kernel) (by decide +kernel)
set_option maxRecDepth 20000 in
theorem gL_law_X2_code : GoodIn wsL_law (wsV RL 216 RX2 yX2_code wsX2_code) := goodIn_app (goodIn_of _ (by decide +kernel)) ggL_law_X2_code
set_option maxRecDepth 20000 in
theorem ggL_law_X3_code : GoodIn wsL_law wsX3_code := goodIn_r _ [532, 89, 163, 640, 641, 642, 643, 644, 645, 646, 647] (by decide +kernel) (by decide +kernel)
set_option maxRecDepth 20000 in
theorem gL_law_X3_code : GoodIn wsL_law (wsV RL 219 RX3 yX3_code wsX3_code) := goodIn_app (goodIn_of _ (by decide +kernel)) ggL_law_X3_code
set_option maxRecDepth 20000 in
theorem ggL_law_L_count : GoodIn wsL_law wsL_count := goodIn_ca (goodIn_r _ [535, 116, 536, 537, 538, 2, 539, 126, 127, 20, 635, 636, 637, 638, 639] (by decide +kernel) (by decide +kernel)) (goodIn_sub (fun _ h => List.mem_append_right _ h) (by decide +kernel))
set_option maxRecDepth 20000 in
theorem gL_law_L_count : GoodIn wsL_law (va_wsS RL 220 yL_count wsL_count) := goodIn_app (goodIn_of _ (by decide +kernel)) ggL_law_L_count
set_option maxRecDepth 20000 in
theorem ggL_law_X3_count : GoodIn wsL_law wsX3_count := goodIn_r _ [543, 89, 41, 94, 95, 96, 5, 97, 640, 641, 642, 643, 644, 645, 646, 647] (by decide +kernel) (by decide +kernel)
set_option maxRecDepth 20000 in
theorem gL_law_X3_count : GoodIn wsL_law (wsV RL 222 RX3 yX3_count wsX3_count) := goodIn_app (goodIn_of _ (by decide +kernel)) ggL_law_X3_count
set_option maxRecDepth 20000 in
theorem ggL_law_L_hasCells : GoodIn wsL_law wsL_hasCells := goodIn_ca (goodIn_r _ [546, 116, 547, 548, 549, 2, 550, 551, 552, 553, 126, 127, 56, 57, 58, 59, 60, 61] (by decide +kernel) (by decide +kernel)) (goodIn_sub (fun _ h => List.mem_append_right _ h) (by decide +kernel))
set_option maxRecDepth 20000 in
theorem gL_law_L_hasCells : GoodIn wsL_law (va_wsS RL 223 yL_hasCells wsL_hasCells) := goodIn_app (goodIn_of _ (by decide +kernel)) ggL_law_L_hasCells
set_option maxRecDepth 20000 in
theorem ggL_law_X3_hasCells : GoodIn wsL_law wsX3_hasCells := goodIn_r _ [557, 89, 558, 559, 5, 560, 91, 92, 93, 640, 641, 642, 643, 644, 645, 646, 647] (by decide +kernel) (by decide +kernel)
set_option maxRecDepth 20000 in
theorem gL_law_X3_hasCells : GoodIn wsL_law (wsV RL 225 RX3 yX3_hasCells wsX3_hasCells) := goodIn_app (goodIn_of _ (by decide +kernel)) ggL_law_X3_hasCells
set_option maxRecDepth 20000 in
theorem ggL_law_L_isNumber : GoodIn wsL_law wsL_isNumber := goodIn_ca (goodIn_r _ [563, 116, 564, 565, 566, 2, 567, 551, 552, 553, 126, 127, 56, 57, 58] (by decide +kernel) (by decide +kernel)) (goodIn_sub (fun _ h => List.mem_append_right _ h) (by decide +kernel))
set_option maxRecDepth 20000 in
theorem gL_law_L_isNumber : GoodIn wsL_law (va_wsS RL 226 yL_isNumber wsL_isNumber) := goodIn_app (goodIn_of _ (by decide +kernel)) ggL_law_L_isNumber
set_option maxRecDepth 20000 in
theorem ggL_law_X3_isNumber : GoodIn wsL_law wsX3_isNumber := goodIn_r _ [571, 89, 558, 559, 5, 560, 91, 92, 93, 640, 641, 642, 643, 644, 645, 646, 647] (by decide +kernel) (by decide +kernel)
set_option maxRecDepth 20000 in
theorem gL_law_X3_isNumber : GoodIn wsL_law (wsV RL 228 RX3 yX3_isNumber wsX3_isNumber) := goodIn_app (goodIn_of _ (by decide +kernel)) ggL_law_X3_isNumber
set_option maxRecDepth 20000 in
theorem ggL_law_L_canWiden : GoodIn wsL_law wsL_canWiden := goodIn_ca (goodIn_r _ [574, 116, 575, 576, 577, 2, 578, 551, 552, 553, 126, 127, 56, 57, 58, 178, 179, 180, 59, 60, 61] (by decide +kernel) (by decide +kernel)) (goodIn_sub (fun _ h => List.mem_append_right _ h) (by decide +kernel))
set_option maxRecDepth 20000 in
theorem gL_law_L_canWiden : GoodIn wsL_law (va_wsS RL 229 yL_canWiden wsL_canWiden) := goodIn_app (goodIn_of _ (by decide +kernel)) ggL_law_L_canWiden
set_option maxRecDepth 20000 in
theorem ggL_law_X3_canWiden : GoodIn wsL_law wsX3_canWiden := goodIn_r _ [582, 89, 558, 559, 5, 560, 197, 198, 199, 91, 92, 93, 640, 641, 642, 643, 644, 645, 646, 647] (by decide +kernel) (by decide +kernel)
set_option maxRecDepth 20000 in
theorem gL_law_X3_canWiden : GoodIn wsL_law (wsV RL 231 RX3 yX3_canWiden wsX3_canWiden) := goodIn_app (goodIn_of _ (by decide +kernel)) ggL_law_X3_canWiden
set_option maxRecDepth 20000 in
theorem ggL_law_X2_digest : GoodIn wsL_law wsX2_digest := goodIn_ca (goodIn_r _ [586, 587, 25, 20, 588, 589, 2, 590, 591, 122, 123, 124, 125, 126, 127, 18, 592, 593, 594, 595, 121, 143, 596, 597, 24, 598, 599, 600, 23, 601, 602, 603, 604, 605, 606, 607, 608, 609, 610, 500, 501, 502, 503, 611, 612, 613, 614, 31, 32, 615, 616, 635, 636, 637, 638, 639, 649, 650, 651, 652, 648] (by decide +kernel) (by decide +kernel)) (goodIn_sub (fun _ h => List.mem_append_right _ h) (by decide +kernel))
set_option maxRecDepth 20000 in
theorem gL_law_X2_digest : GoodIn wsL_law (wsV RL 232 RX2 yX2_digest wsX2_digest) := goodIn_app (goodIn_of _ (by decide +kernel)) ggL_law_X2_digest
set_option maxRecDepth 20000 in
theorem ggL_law_X3_digest : GoodIn wsL_law wsX3_digest := goodIn_r _ [620, 89, 621, 90, 622, 37, 38, 40, 39, 41, 91, 92, 5, 93, 281, 282, 283, 98, 99, 100, 623, 624, 625, 626, 627, 628, 629, 630, 631, 632, 633, 634, 640, 641, 642, 643, 644, 645, 646, 647] (by decide +kernel) (by decide +kernel)
set_option maxRecDepth 20000 in
theorem gL_law_X3_digest : GoodIn wsL_law (wsV RL 236 RX3 yX3_digest wsX3_digest) := goodIn_app (goodIn_of _ (by decide +kernel)) ggL_law_X3_digest
theorem dL_law_0 : decode cL_law 0 = .ok (.new 8, 3) := by decide +kernel
theorem dL_law_3 : decode cL_law 3 = .ok (.dup, 1) := by decide +kernel
theorem dL_law_4 : decode cL_law 4 = .ok (.invokespecial 114, 3) := by decide +kernel
theorem dL_law_7 : decode cL_law 7 = .ok (.astore_n 1, 1) := by decide +kernel
theorem dL_law_8 : decode cL_law 8 = .ok (.new 115, 3) := by decide +kernel
theorem dL_law_11 : decode cL_law 11 = .ok (.dup, 1) := by decide +kernel
theorem dL_law_12 : decode cL_law 12 = .ok (.invokespecial 117, 3) := by decide +kernel
theorem dL_law_15 : decode cL_law 15 = .ok (.astore_n 2, 1) := by decide +kernel
theorem dL_law_16 : decode cL_law 16 = .ok (.iconst 1, 1) := by decide +kernel
theorem dL_law_17 : decode cL_law 17 = .ok (.newarray .long, 2) := by decide +kernel
theorem dL_law_19 : decode cL_law 19 = .ok (.astore_n 3, 1) := by decide +kernel
theorem dL_law_20 : decode cL_law 20 = .ok (.iconst 1, 1) := by decide +kernel
theorem dL_law_21 : decode cL_law 21 = .ok (.newarray .double, 2) := by decide +kernel
theorem dL_law_23 : decode cL_law 23 = .ok (.astore 4, 2) := by decide +kernel
theorem dL_law_25 : decode cL_law 25 = .ok (.iconst 0, 1) := by decide +kernel
theorem dL_law_26 : decode cL_law 26 = .ok (.istore 5, 2) := by decide +kernel
theorem dL_law_28 : decode cL_law 28 = .ok (.iload 5, 2) := by decide +kernel
theorem dL_law_30 : decode cL_law 30 = .ok (.aload_n 0, 1) := by decide +kernel
theorem dL_law_31 : decode cL_law 31 = .ok (.arraylength, 1) := by decide +kernel
theorem dL_law_32 : decode cL_law 32 = .ok (.bipush 6, 2) := by decide +kernel
theorem dL_law_34 : decode cL_law 34 = .ok (.isub, 1) := by decide +kernel
theorem dL_law_35 : decode cL_law 35 = .ok (.if_icmp .gt 2361, 3) := by decide +kernel
theorem dL_law_38 : decode cL_law 38 = .ok (.aload_n 0, 1) := by decide +kernel
theorem dL_law_39 : decode cL_law 39 = .ok (.iload 5, 2) := by decide +kernel
theorem dL_law_41 : decode cL_law 41 = .ok (.iaload, 1) := by decide +kernel
theorem dL_law_42 : decode cL_law 42 = .ok (.bipush 31, 2) := by decide +kernel
theorem dL_law_44 : decode cL_law 44 = .ok (.iand, 1) := by decide +kernel
theorem dL_law_45 : decode cL_law 45 = .ok (.tableswitch 2345 0 30 #[139, 207, 220, 276, 332, 407, 475, 543, 611, 679, 746, 836, 925, 1014, 1110, 1190, 1270, 1350, 1430, 1542, 1630, 1720, 1812, 1916, 1993, 2061, 2074, 2130, 2193, 2256, 2331], 139) := by decide +kernel
theorem dL_law_184 : decode cL_law 184 = .ok (.aload_n 1, 1) := by decide +kernel
theorem dL_law_185 : decode cL_law 185 = .ok (.aload_n 0, 1) := by decide +kernel
theorem dL_law_186 : decode cL_law 186 = .ok (.iload 5, 2) := by decide +kernel
theorem dL_law_188 : decode cL_law 188 = .ok (.iconst 1, 1) := by decide +kernel
theorem dL_law_189 : decode cL_law 189 = .ok (.iadd, 1) := by decide +kernel
theorem dL_law_190 : decode cL_law 190 = .ok (.iaload, 1) := by decide +kernel
theorem dL_law_191 : decode cL_law 191 = .ok (.aload_n 0, 1) := by decide +kernel
theorem dL_law_192 : decode cL_law 192 = .ok (.iload 5, 2) := by decide +kernel
theorem dL_law_194 : decode cL_law 194 = .ok (.iconst 2, 1) := by decide +kernel
theorem dL_law_195 : decode cL_law 195 = .ok (.iadd, 1) := by decide +kernel
theorem dL_law_196 : decode cL_law 196 = .ok (.iaload, 1) := by decide +kernel
theorem dL_law_197 : decode cL_law 197 = .ok (.aload_n 3, 1) := by decide +kernel
theorem dL_law_198 : decode cL_law 198 = .ok (.invokestatic 118, 3) := by decide +kernel
theorem dL_law_201 : decode cL_law 201 = .ok (.istore 6, 2) := by decide +kernel
theorem dL_law_203 : decode cL_law 203 = .ok (.aload_n 2, 1) := by decide +kernel
theorem dL_law_204 : decode cL_law 204 = .ok (.aload_n 0, 1) := by decide +kernel
theorem dL_law_205 : decode cL_law 205 = .ok (.iload 5, 2) := by decide +kernel
theorem dL_law_207 : decode cL_law 207 = .ok (.iconst 1, 1) := by decide +kernel
theorem dL_law_208 : decode cL_law 208 = .ok (.iadd, 1) := by decide +kernel
theorem dL_law_209 : decode cL_law 209 = .ok (.iaload, 1) := by decide +kernel
theorem dL_law_210 : decode cL_law 210 = .ok (.aload_n 0, 1) := by decide +kernel
theorem dL_law_211 : decode cL_law 211 = .ok (.iload 5, 2) := by decide +kernel
theorem dL_law_213 : decode cL_law 213 = .ok (.iconst 2, 1) := by decide +kernel
theorem dL_law_214 : decode cL_law 214 = .ok (.iadd, 1) := by decide +kernel
theorem dL_law_215 : decode cL_law 215 = .ok (.iaload, 1) := by decide +kernel
theorem dL_law_216 : decode cL_law 216 = .ok (.invokevirtual 123, 3) := by decide +kernel
theorem dL_law_219 : decode cL_law 219 = .ok (.istore 7, 2) := by decide +kernel
theorem dL_law_221 : decode cL_law 221 = .ok (.aload_n 2, 1) := by decide +kernel
theorem dL_law_222 : decode cL_law 222 = .ok (.invokevirtual 124, 3) := by decide +kernel
theorem dL_law_225 : decode cL_law 225 = .ok (.iload 6, 2) := by decide +kernel
theorem dL_law_227 : decode cL_law 227 = .ok (.if_icmp .eq 5, 3) := by decide +kernel
theorem dL_law_230 : decode cL_law 230 = .ok (.iconst 0, 1) := by decide +kernel
theorem dL_law_231 : decode cL_law 231 = .ok (.ireturn, 1) := by decide +kernel
theorem dL_law_232 : decode cL_law 232 = .ok (.iload 6, 2) := by decide +kernel
theorem dL_law_234 : decode cL_law 234 = .ok (.ifCond .ne 15, 3) := by decide +kernel
theorem dL_law_237 : decode cL_law 237 = .ok (.aload_n 3, 1) := by decide +kernel
theorem dL_law_238 : decode cL_law 238 = .ok (.iconst 0, 1) := by decide +kernel
theorem dL_law_239 : decode cL_law 239 = .ok (.laload, 1) := by decide +kernel
theorem dL_law_240 : decode cL_law 240 = .ok (.iload 7, 2) := by decide +kernel
theorem dL_law_242 : decode cL_law 242 = .ok (.i2l, 1) := by decide +kernel
theorem dL_law_243 : decode cL_law 243 = .ok (.lcmp, 1) := by decide +kernel
theorem dL_law_244 : decode cL_law 244 = .ok (.ifCond .eq 5, 3) := by decide +kernel
theorem dL_law_247 : decode cL_law 247 = .ok (.iconst 0, 1) := by decide +kernel
theorem dL_law_248 : decode cL_law 248 = .ok (.ireturn, 1) := by decide +kernel
theorem dL_law_249 : decode cL_law 249 = .ok (.goto 2141, 3) := by decide +kernel
theorem dL_law_252 : decode cL_law 252 = .ok (.aload_n 1, 1) := by decide +kernel
theorem dL_law_253 : decode cL_law 253 = .ok (.invokevirtual 128, 3) := by decide +kernel
theorem dL_law_256 : decode cL_law 256 = .ok (.aload_n 2, 1) := by decide +kernel
theorem dL_law_257 : decode cL_law 257 = .ok (.invokevirtual 131, 3) := by decide +kernel
theorem dL_law_260 : decode cL_law 260 = .ok (.if_icmp .eq 2130, 3) := by decide +kernel
theorem dL_law_263 : decode cL_law 263 = .ok (.iconst 0, 1) := by decide +kernel
theorem dL_law_264 : decode cL_law 264 = .ok (.ireturn, 1) := by decide +kernel
theorem dL_law_265 : decode cL_law 265 = .ok (.aload_n 1, 1) := by decide +kernel
theorem dL_law_266 : decode cL_law 266 = .ok (.aload_n 0, 1) := by decide +kernel
theorem dL_law_267 : decode cL_law 267 = .ok (.iload 5, 2) := by decide +kernel
theorem dL_law_269 : decode cL_law 269 = .ok (.iconst 1, 1) := by decide +kernel
theorem dL_law_270 : decode cL_law 270 = .ok (.iadd, 1) := by decide +kernel
theorem dL_law_271 : decode cL_law 271 = .ok (.iaload, 1) := by decide +kernel
theorem dL_law_272 : decode cL_law 272 = .ok (.aload_n 3, 1) := by decide +kernel
theorem dL_law_273 : decode cL_law 273 = .ok (.invokestatic 132, 3) := by decide +kernel
theorem dL_law_276 : decode cL_law 276 = .ok (.istore 6, 2) := by decide +kernel
theorem dL_law_278 : decode cL_law 278 = .ok (.aload_n 2, 1) := by decide +kernel
theorem dL_law_279 : decode cL_law 279 = .ok (.aload_n 0, 1) := by decide +kernel
theorem dL_law_280 : decode cL_law 280 = .ok (.iload 5, 2) := by decide +kernel
theorem dL_law_282 : decode cL_law 282 = .ok (.iconst 1, 1) := by decide +kernel
theorem dL_law_283 : decode cL_law 283 = .ok (.iadd, 1) := by decide +kernel
theorem dL_law_284 : decode cL_law 284 = .ok (.iaload, 1) := by decide +kernel
theorem dL_law_285 : decode cL_law 285 = .ok (.invokevirtual 135, 3) := by decide +kernel
theorem dL_law_288 : decode cL_law 288 = .ok (.istore 7, 2) := by decide +kernel
theorem dL_law_290 : decode cL_law 290 = .ok (.aload_n 2, 1) := by decide +kernel
theorem dL_law_291 : decode cL_law 291 = .ok (.invokevirtual 124, 3) := by decide +kernel
theorem dL_law_294 : decode cL_law 294 = .ok (.iload 6, 2) := by decide +kernel
theorem dL_law_296 : decode cL_law 296 = .ok (.if_icmp .eq 5, 3) := by decide +kernel
theorem dL_law_299 : decode cL_law 299 = .ok (.iconst 0, 1) := by decide +kernel
theorem dL_law_300 : decode cL_law 300 = .ok (.ireturn, 1) := by decide +kernel
theorem dL_law_301 : decode cL_law 301 = .ok (.iload 6, 2) := by decide +kernel
theorem dL_law_303 : decode cL_law 303 = .ok (.ifCond .ne 15, 3) := by decide +kernel
theorem dL_law_306 : decode cL_law 306 = .ok (.aload_n 3, 1) := by decide +kernel
theorem dL_law_307 : decode cL_law 307 = .ok (.iconst 0, 1) := by decide +kernel
theorem dL_law_308 : decode cL_law 308 = .ok (.laload, 1) := by decide +kernel
theorem dL_law_309 : decode cL_law 309 = .ok (.iload 7, 2) := by decide +kernel
theorem dL_law_311 : decode cL_law 311 = .ok (.i2l, 1) := by decide +kernel
theorem dL_law_312 : decode cL_law 312 = .ok (.lcmp, 1) := by decide +kernel
theorem dL_law_313 : decode cL_law 313 = .ok (.ifCond .eq 5, 3) := by decide +kernel
theorem dL_law_316 : decode cL_law 316 = .ok (.iconst 0, 1) := by decide +kernel
theorem dL_law_317 : decode cL_law 317 = .ok (.ireturn, 1) := by decide +kernel
theorem dL_law_318 : decode cL_law 318 = .ok (.goto 2072, 3) := by decide +kernel
theorem dL_law_321 : decode cL_law 321 = .ok (.aload_n 1, 1) := by decide +kernel
theorem dL_law_322 : decode cL_law 322 = .ok (.aload_n 0, 1) := by decide +kernel
theorem dL_law_323 : decode cL_law 323 = .ok (.iload 5, 2) := by decide +kernel
theorem dL_law_325 : decode cL_law 325 = .ok (.iconst 1, 1) := by decide +kernel
theorem dL_law_326 : decode cL_law 326 = .ok (.iadd, 1) := by decide +kernel
theorem dL_law_327 : decode cL_law 327 = .ok (.iaload, 1) := by decide +kernel
theorem dL_law_328 : decode cL_law 328 = .ok (.aload_n 3, 1) := by decide +kernel
theorem dL_law_329 : decode cL_law 329 = .ok (.invokestatic 136, 3) := by decide +kernel
theorem dL_law_332 : decode cL_law 332 = .ok (.istore 6, 2) := by decide +kernel
theorem dL_law_334 : decode cL_law 334 = .ok (.aload_n 2, 1) := by decide +kernel
theorem dL_law_335 : decode cL_law 335 = .ok (.aload_n 0, 1) := by decide +kernel
theorem dL_law_336 : decode cL_law 336 = .ok (.iload 5, 2) := by decide +kernel
theorem dL_law_338 : decode cL_law 338 = .ok (.iconst 1, 1) := by decide +kernel
theorem dL_law_339 : decode cL_law 339 = .ok (.iadd, 1) := by decide +kernel
theorem dL_law_340 : decode cL_law 340 = .ok (.iaload, 1) := by decide +kernel
theorem dL_law_341 : decode cL_law 341 = .ok (.invokevirtual 138, 3) := by decide +kernel
theorem dL_law_344 : decode cL_law 344 = .ok (.istore 7, 2) := by decide +kernel
theorem dL_law_346 : decode cL_law 346 = .ok (.aload_n 2, 1) := by decide +kernel
theorem dL_law_347 : decode cL_law 347 = .ok (.invokevirtual 124, 3) := by decide +kernel
theorem dL_law_350 : decode cL_law 350 = .ok (.iload 6, 2) := by decide +kernel
theorem dL_law_352 : decode cL_law 352 = .ok (.if_icmp .eq 5, 3) := by decide +kernel
theorem dL_law_355 : decode cL_law 355 = .ok (.iconst 0, 1) := by decide +kernel
theorem dL_law_356 : decode cL_law 356 = .ok (.ireturn, 1) := by decide +kernel
theorem dL_law_357 : decode cL_law 357 = .ok (.iload 6, 2) := by decide +kernel
theorem dL_law_359 : decode cL_law 359 = .ok (.ifCond .ne 15, 3) := by decide +kernel
theorem dL_law_362 : decode cL_law 362 = .ok (.aload_n 3, 1) := by decide +kernel
theorem dL_law_363 : decode cL_law 363 = .ok (.iconst 0, 1) := by decide +kernel
theorem dL_law_364 : decode cL_law 364 = .ok (.laload, 1) := by decide +kernel
theorem dL_law_365 : decode cL_law 365 = .ok (.iload 7, 2) := by decide +kernel
theorem dL_law_367 : decode cL_law 367 = .ok (.i2l, 1) := by decide +kernel
theorem dL_law_368 : decode cL_law 368 = .ok (.lcmp, 1) := by decide +kernel
theorem dL_law_369 : decode cL_law 369 = .ok (.ifCond .eq 5, 3) := by decide +kernel
theorem dL_law_372 : decode cL_law 372 = .ok (.iconst 0, 1) := by decide +kernel
theorem dL_law_373 : decode cL_law 373 = .ok (.ireturn, 1) := by decide +kernel
theorem dL_law_374 : decode cL_law 374 = .ok (.goto 2016, 3) := by decide +kernel
theorem dL_law_377 : decode cL_law 377 = .ok (.aload_n 1, 1) := by decide +kernel
theorem dL_law_378 : decode cL_law 378 = .ok (.aload_n 0, 1) := by decide +kernel
theorem dL_law_379 : decode cL_law 379 = .ok (.iload 5, 2) := by decide +kernel
theorem dL_law_381 : decode cL_law 381 = .ok (.iconst 1, 1) := by decide +kernel
theorem dL_law_382 : decode cL_law 382 = .ok (.iadd, 1) := by decide +kernel
theorem dL_law_383 : decode cL_law 383 = .ok (.iaload, 1) := by decide +kernel
theorem dL_law_384 : decode cL_law 384 = .ok (.aload_n 0, 1) := by decide +kernel
theorem dL_law_385 : decode cL_law 385 = .ok (.iload 5, 2) := by decide +kernel
theorem dL_law_387 : decode cL_law 387 = .ok (.iconst 2, 1) := by decide +kernel
theorem dL_law_388 : decode cL_law 388 = .ok (.iadd, 1) := by decide +kernel
theorem dL_law_389 : decode cL_law 389 = .ok (.iaload, 1) := by decide +kernel
theorem dL_law_390 : decode cL_law 390 = .ok (.aload_n 3, 1) := by decide +kernel
theorem dL_law_391 : decode cL_law 391 = .ok (.invokestatic 139, 3) := by decide +kernel
theorem dL_law_394 : decode cL_law 394 = .ok (.istore 6, 2) := by decide +kernel
theorem dL_law_396 : decode cL_law 396 = .ok (.aload_n 2, 1) := by decide +kernel
theorem dL_law_397 : decode cL_law 397 = .ok (.aload_n 0, 1) := by decide +kernel
theorem dL_law_398 : decode cL_law 398 = .ok (.iload 5, 2) := by decide +kernel
theorem dL_law_400 : decode cL_law 400 = .ok (.iconst 1, 1) := by decide +kernel
theorem dL_law_401 : decode cL_law 401 = .ok (.iadd, 1) := by decide +kernel
theorem dL_law_402 : decode cL_law 402 = .ok (.iaload, 1) := by decide +kernel
theorem dL_law_403 : decode cL_law 403 = .ok (.aload_n 0, 1) := by decide +kernel
theorem dL_law_404 : decode cL_law 404 = .ok (.iload 5, 2) := by decide +kernel
theorem dL_law_406 : decode cL_law 406 = .ok (.iconst 2, 1) := by decide +kernel
theorem dL_law_407 : decode cL_law 407 = .ok (.iadd, 1) := by decide +kernel
theorem dL_law_408 : decode cL_law 408 = .ok (.iaload, 1) := by decide +kernel
theorem dL_law_409 : decode cL_law 409 = .ok (.invokevirtual 141, 3) := by decide +kernel
theorem dL_law_412 : decode cL_law 412 = .ok (.istore 7, 2) := by decide +kernel
theorem dL_law_414 : decode cL_law 414 = .ok (.aload_n 2, 1) := by decide +kernel
theorem dL_law_415 : decode cL_law 415 = .ok (.invokevirtual 124, 3) := by decide +kernel
theorem dL_law_418 : decode cL_law 418 = .ok (.iload 6, 2) := by decide +kernel
theorem dL_law_420 : decode cL_law 420 = .ok (.if_icmp .eq 5, 3) := by decide +kernel
theorem dL_law_423 : decode cL_law 423 = .ok (.iconst 0, 1) := by decide +kernel
theorem dL_law_424 : decode cL_law 424 = .ok (.ireturn, 1) := by decide +kernel
theorem dL_law_425 : decode cL_law 425 = .ok (.iload 6, 2) := by decide +kernel
theorem dL_law_427 : decode cL_law 427 = .ok (.ifCond .ne 22, 3) := by decide +kernel
theorem dL_law_430 : decode cL_law 430 = .ok (.aload_n 3, 1) := by decide +kernel
theorem dL_law_431 : decode cL_law 431 = .ok (.iconst 0, 1) := by decide +kernel
theorem dL_law_432 : decode cL_law 432 = .ok (.laload, 1) := by decide +kernel
theorem dL_law_433 : decode cL_law 433 = .ok (.iload 7, 2) := by decide +kernel
theorem dL_law_435 : decode cL_law 435 = .ok (.ifCond .eq 7, 3) := by decide +kernel
theorem dL_law_438 : decode cL_law 438 = .ok (.lconst 1, 1) := by decide +kernel
theorem dL_law_439 : decode cL_law 439 = .ok (.goto 4, 3) := by decide +kernel
theorem dL_law_442 : decode cL_law 442 = .ok (.lconst 0, 1) := by decide +kernel
theorem dL_law_443 : decode cL_law 443 = .ok (.lcmp, 1) := by decide +kernel
theorem dL_law_444 : decode cL_law 444 = .ok (.ifCond .eq 5, 3) := by decide +kernel
theorem dL_law_447 : decode cL_law 447 = .ok (.iconst 0, 1) := by decide +kernel
theorem dL_law_448 : decode cL_law 448 = .ok (.ireturn, 1) := by decide +kernel
theorem dL_law_449 : decode cL_law 449 = .ok (.goto 1941, 3) := by decide +kernel
theorem dL_law_452 : decode cL_law 452 = .ok (.aload_n 1, 1) := by decide +kernel
theorem dL_law_453 : decode cL_law 453 = .ok (.aload_n 0, 1) := by decide +kernel
theorem dL_law_454 : decode cL_law 454 = .ok (.iload 5, 2) := by decide +kernel
theorem dL_law_456 : decode cL_law 456 = .ok (.iconst 1, 1) := by decide +kernel
theorem dL_law_457 : decode cL_law 457 = .ok (.iadd, 1) := by decide +kernel
theorem dL_law_458 : decode cL_law 458 = .ok (.iaload, 1) := by decide +kernel
theorem dL_law_459 : decode cL_law 459 = .ok (.aload_n 0, 1) := by decide +kernel
theorem dL_law_460 : decode cL_law 460 = .ok (.iload 5, 2) := by decide +kernel
theorem dL_law_462 : decode cL_law 462 = .ok (.iconst 2, 1) := by decide +kernel
theorem dL_law_463 : decode cL_law 463 = .ok (.iadd, 1) := by decide +kernel
theorem dL_law_464 : decode cL_law 464 = .ok (.iaload, 1) := by decide +kernel
theorem dL_law_465 : decode cL_law 465 = .ok (.aload_n 3, 1) := by decide +kernel
theorem dL_law_466 : decode cL_law 466 = .ok (.invokestatic 142, 3) := by decide +kernel
theorem dL_law_469 : decode cL_law 469 = .ok (.istore 6, 2) := by decide +kernel
theorem dL_law_471 : decode cL_law 471 = .ok (.aload_n 2, 1) := by decide +kernel
theorem dL_law_472 : decode cL_law 472 = .ok (.aload_n 0, 1) := by decide +kernel
theorem dL_law_473 : decode cL_law 473 = .ok (.iload 5, 2) := by decide +kernel
theorem dL_law_475 : decode cL_law 475 = .ok (.iconst 1, 1) := by decide +kernel
theorem dL_law_476 : decode cL_law 476 = .ok (.iadd, 1) := by decide +kernel
theorem dL_law_477 : decode cL_law 477 = .ok (.iaload, 1) := by decide +kernel
theorem dL_law_478 : decode cL_law 478 = .ok (.aload_n 0, 1) := by decide +kernel
theorem dL_law_479 : decode cL_law 479 = .ok (.iload 5, 2) := by decide +kernel
theorem dL_law_481 : decode cL_law 481 = .ok (.iconst 2, 1) := by decide +kernel
theorem dL_law_482 : decode cL_law 482 = .ok (.iadd, 1) := by decide +kernel
theorem dL_law_483 : decode cL_law 483 = .ok (.iaload, 1) := by decide +kernel
theorem dL_law_484 : decode cL_law 484 = .ok (.invokevirtual 144, 3) := by decide +kernel
theorem dL_law_487 : decode cL_law 487 = .ok (.istore 7, 2) := by decide +kernel
theorem dL_law_489 : decode cL_law 489 = .ok (.aload_n 2, 1) := by decide +kernel
theorem dL_law_490 : decode cL_law 490 = .ok (.invokevirtual 124, 3) := by decide +kernel
theorem dL_law_493 : decode cL_law 493 = .ok (.iload 6, 2) := by decide +kernel
theorem dL_law_495 : decode cL_law 495 = .ok (.if_icmp .eq 5, 3) := by decide +kernel
theorem dL_law_498 : decode cL_law 498 = .ok (.iconst 0, 1) := by decide +kernel
theorem dL_law_499 : decode cL_law 499 = .ok (.ireturn, 1) := by decide +kernel
theorem dL_law_500 : decode cL_law 500 = .ok (.iload 6, 2) := by decide +kernel
theorem dL_law_502 : decode cL_law 502 = .ok (.ifCond .ne 15, 3) := by decide +kernel
theorem dL_law_505 : decode cL_law 505 = .ok (.aload_n 3, 1) := by decide +kernel
theorem dL_law_506 : decode cL_law 506 = .ok (.iconst 0, 1) := by decide +kernel
theorem dL_law_507 : decode cL_law 507 = .ok (.laload, 1) := by decide +kernel
theorem dL_law_508 : decode cL_law 508 = .ok (.iload 7, 2) := by decide +kernel
theorem dL_law_510 : decode cL_law 510 = .ok (.i2l, 1) := by decide +kernel
theorem dL_law_511 : decode cL_law 511 = .ok (.lcmp, 1) := by decide +kernel
theorem dL_law_512 : decode cL_law 512 = .ok (.ifCond .eq 5, 3) := by decide +kernel
theorem dL_law_515 : decode cL_law 515 = .ok (.iconst 0, 1) := by decide +kernel
theorem dL_law_516 : decode cL_law 516 = .ok (.ireturn, 1) := by decide +kernel
theorem dL_law_517 : decode cL_law 517 = .ok (.goto 1873, 3) := by decide +kernel
theorem dL_law_520 : decode cL_law 520 = .ok (.aload_n 1, 1) := by decide +kernel
theorem dL_law_521 : decode cL_law 521 = .ok (.aload_n 0, 1) := by decide +kernel
theorem dL_law_522 : decode cL_law 522 = .ok (.iload 5, 2) := by decide +kernel
theorem dL_law_524 : decode cL_law 524 = .ok (.iconst 1, 1) := by decide +kernel
theorem dL_law_525 : decode cL_law 525 = .ok (.iadd, 1) := by decide +kernel
theorem dL_law_526 : decode cL_law 526 = .ok (.iaload, 1) := by decide +kernel
theorem dL_law_527 : decode cL_law 527 = .ok (.aload_n 0, 1) := by decide +kernel
theorem dL_law_528 : decode cL_law 528 = .ok (.iload 5, 2) := by decide +kernel
theorem dL_law_530 : decode cL_law 530 = .ok (.iconst 2, 1) := by decide +kernel
theorem dL_law_531 : decode cL_law 531 = .ok (.iadd, 1) := by decide +kernel
theorem dL_law_532 : decode cL_law 532 = .ok (.iaload, 1) := by decide +kernel
theorem dL_law_533 : decode cL_law 533 = .ok (.aload_n 3, 1) := by decide +kernel
theorem dL_law_534 : decode cL_law 534 = .ok (.invokestatic 145, 3) := by decide +kernel
theorem dL_law_537 : decode cL_law 537 = .ok (.istore 6, 2) := by decide +kernel
theorem dL_law_539 : decode cL_law 539 = .ok (.aload_n 2, 1) := by decide +kernel
theorem dL_law_540 : decode cL_law 540 = .ok (.aload_n 0, 1) := by decide +kernel
theorem dL_law_541 : decode cL_law 541 = .ok (.iload 5, 2) := by decide +kernel
theorem dL_law_543 : decode cL_law 543 = .ok (.iconst 1, 1) := by decide +kernel
theorem dL_law_544 : decode cL_law 544 = .ok (.iadd, 1) := by decide +kernel
theorem dL_law_545 : decode cL_law 545 = .ok (.iaload, 1) := by decide +kernel
theorem dL_law_546 : decode cL_law 546 = .ok (.aload_n 0, 1) := by decide +kernel
theorem dL_law_547 : decode cL_law 547 = .ok (.iload 5, 2) := by decide +kernel
theorem dL_law_549 : decode cL_law 549 = .ok (.iconst 2, 1) := by decide +kernel
theorem dL_law_550 : decode cL_law 550 = .ok (.iadd, 1) := by decide +kernel
theorem dL_law_551 : decode cL_law 551 = .ok (.iaload, 1) := by decide +kernel
theorem dL_law_552 : decode cL_law 552 = .ok (.invokevirtual 147, 3) := by decide +kernel
theorem dL_law_555 : decode cL_law 555 = .ok (.istore 7, 2) := by decide +kernel
theorem dL_law_557 : decode cL_law 557 = .ok (.aload_n 2, 1) := by decide +kernel
theorem dL_law_558 : decode cL_law 558 = .ok (.invokevirtual 124, 3) := by decide +kernel
theorem dL_law_561 : decode cL_law 561 = .ok (.iload 6, 2) := by decide +kernel
theorem dL_law_563 : decode cL_law 563 = .ok (.if_icmp .eq 5, 3) := by decide +kernel
theorem dL_law_566 : decode cL_law 566 = .ok (.iconst 0, 1) := by decide +kernel
theorem dL_law_567 : decode cL_law 567 = .ok (.ireturn, 1) := by decide +kernel
theorem dL_law_568 : decode cL_law 568 = .ok (.iload 6, 2) := by decide +kernel
theorem dL_law_570 : decode cL_law 570 = .ok (.ifCond .ne 15, 3) := by decide +kernel
theorem dL_law_573 : decode cL_law 573 = .ok (.aload_n 3, 1) := by decide +kernel
theorem dL_law_574 : decode cL_law 574 = .ok (.iconst 0, 1) := by decide +kernel
theorem dL_law_575 : decode cL_law 575 = .ok (.laload, 1) := by decide +kernel
theorem dL_law_576 : decode cL_law 576 = .ok (.iload 7, 2) := by decide +kernel
theorem dL_law_578 : decode cL_law 578 = .ok (.i2l, 1) := by decide +kernel
theorem dL_law_579 : decode cL_law 579 = .ok (.lcmp, 1) := by decide +kernel
theorem dL_law_580 : decode cL_law 580 = .ok (.ifCond .eq 5, 3) := by decide +kernel
theorem dL_law_583 : decode cL_law 583 = .ok (.iconst 0, 1) := by decide +kernel
theorem dL_law_584 : decode cL_law 584 = .ok (.ireturn, 1) := by decide +kernel
theorem dL_law_585 : decode cL_law 585 = .ok (.goto 1805, 3) := by decide +kernel
theorem dL_law_588 : decode cL_law 588 = .ok (.aload_n 1, 1) := by decide +kernel
theorem dL_law_589 : decode cL_law 589 = .ok (.aload_n 0, 1) := by decide +kernel
theorem dL_law_590 : decode cL_law 590 = .ok (.iload 5, 2) := by decide +kernel
theorem dL_law_592 : decode cL_law 592 = .ok (.iconst 1, 1) := by decide +kernel
theorem dL_law_593 : decode cL_law 593 = .ok (.iadd, 1) := by decide +kernel
theorem dL_law_594 : decode cL_law 594 = .ok (.iaload, 1) := by decide +kernel
theorem dL_law_595 : decode cL_law 595 = .ok (.aload_n 0, 1) := by decide +kernel
theorem dL_law_596 : decode cL_law 596 = .ok (.iload 5, 2) := by decide +kernel
theorem dL_law_598 : decode cL_law 598 = .ok (.iconst 2, 1) := by decide +kernel
theorem dL_law_599 : decode cL_law 599 = .ok (.iadd, 1) := by decide +kernel
theorem dL_law_600 : decode cL_law 600 = .ok (.iaload, 1) := by decide +kernel
theorem dL_law_601 : decode cL_law 601 = .ok (.aload_n 3, 1) := by decide +kernel
theorem dL_law_602 : decode cL_law 602 = .ok (.invokestatic 148, 3) := by decide +kernel
theorem dL_law_605 : decode cL_law 605 = .ok (.istore 6, 2) := by decide +kernel
theorem dL_law_607 : decode cL_law 607 = .ok (.aload_n 2, 1) := by decide +kernel
theorem dL_law_608 : decode cL_law 608 = .ok (.aload_n 0, 1) := by decide +kernel
theorem dL_law_609 : decode cL_law 609 = .ok (.iload 5, 2) := by decide +kernel
theorem dL_law_611 : decode cL_law 611 = .ok (.iconst 1, 1) := by decide +kernel
theorem dL_law_612 : decode cL_law 612 = .ok (.iadd, 1) := by decide +kernel
theorem dL_law_613 : decode cL_law 613 = .ok (.iaload, 1) := by decide +kernel
theorem dL_law_614 : decode cL_law 614 = .ok (.aload_n 0, 1) := by decide +kernel
theorem dL_law_615 : decode cL_law 615 = .ok (.iload 5, 2) := by decide +kernel
theorem dL_law_617 : decode cL_law 617 = .ok (.iconst 2, 1) := by decide +kernel
theorem dL_law_618 : decode cL_law 618 = .ok (.iadd, 1) := by decide +kernel
theorem dL_law_619 : decode cL_law 619 = .ok (.iaload, 1) := by decide +kernel
theorem dL_law_620 : decode cL_law 620 = .ok (.invokevirtual 150, 3) := by decide +kernel
theorem dL_law_623 : decode cL_law 623 = .ok (.istore 7, 2) := by decide +kernel
theorem dL_law_625 : decode cL_law 625 = .ok (.aload_n 2, 1) := by decide +kernel
theorem dL_law_626 : decode cL_law 626 = .ok (.invokevirtual 124, 3) := by decide +kernel
theorem dL_law_629 : decode cL_law 629 = .ok (.iload 6, 2) := by decide +kernel
theorem dL_law_631 : decode cL_law 631 = .ok (.if_icmp .eq 5, 3) := by decide +kernel
theorem dL_law_634 : decode cL_law 634 = .ok (.iconst 0, 1) := by decide +kernel
theorem dL_law_635 : decode cL_law 635 = .ok (.ireturn, 1) := by decide +kernel
theorem dL_law_636 : decode cL_law 636 = .ok (.iload 6, 2) := by decide +kernel
theorem dL_law_638 : decode cL_law 638 = .ok (.ifCond .ne 15, 3) := by decide +kernel
theorem dL_law_641 : decode cL_law 641 = .ok (.aload_n 3, 1) := by decide +kernel
theorem dL_law_642 : decode cL_law 642 = .ok (.iconst 0, 1) := by decide +kernel
theorem dL_law_643 : decode cL_law 643 = .ok (.laload, 1) := by decide +kernel
theorem dL_law_644 : decode cL_law 644 = .ok (.iload 7, 2) := by decide +kernel
theorem dL_law_646 : decode cL_law 646 = .ok (.i2l, 1) := by decide +kernel
theorem dL_law_647 : decode cL_law 647 = .ok (.lcmp, 1) := by decide +kernel
theorem dL_law_648 : decode cL_law 648 = .ok (.ifCond .eq 5, 3) := by decide +kernel
theorem dL_law_651 : decode cL_law 651 = .ok (.iconst 0, 1) := by decide +kernel
theorem dL_law_652 : decode cL_law 652 = .ok (.ireturn, 1) := by decide +kernel
theorem dL_law_653 : decode cL_law 653 = .ok (.goto 1737, 3) := by decide +kernel
theorem dL_law_656 : decode cL_law 656 = .ok (.aload_n 1, 1) := by decide +kernel
theorem dL_law_657 : decode cL_law 657 = .ok (.aload_n 0, 1) := by decide +kernel
theorem dL_law_658 : decode cL_law 658 = .ok (.iload 5, 2) := by decide +kernel
theorem dL_law_660 : decode cL_law 660 = .ok (.iconst 1, 1) := by decide +kernel
theorem dL_law_661 : decode cL_law 661 = .ok (.iadd, 1) := by decide +kernel
theorem dL_law_662 : decode cL_law 662 = .ok (.iaload, 1) := by decide +kernel
theorem dL_law_663 : decode cL_law 663 = .ok (.aload_n 0, 1) := by decide +kernel
theorem dL_law_664 : decode cL_law 664 = .ok (.iload 5, 2) := by decide +kernel
theorem dL_law_666 : decode cL_law 666 = .ok (.iconst 2, 1) := by decide +kernel
theorem dL_law_667 : decode cL_law 667 = .ok (.iadd, 1) := by decide +kernel
theorem dL_law_668 : decode cL_law 668 = .ok (.iaload, 1) := by decide +kernel
theorem dL_law_669 : decode cL_law 669 = .ok (.aload_n 3, 1) := by decide +kernel
theorem dL_law_670 : decode cL_law 670 = .ok (.invokestatic 151, 3) := by decide +kernel
theorem dL_law_673 : decode cL_law 673 = .ok (.istore 6, 2) := by decide +kernel
theorem dL_law_675 : decode cL_law 675 = .ok (.aload_n 2, 1) := by decide +kernel
theorem dL_law_676 : decode cL_law 676 = .ok (.aload_n 0, 1) := by decide +kernel
theorem dL_law_677 : decode cL_law 677 = .ok (.iload 5, 2) := by decide +kernel
theorem dL_law_679 : decode cL_law 679 = .ok (.iconst 1, 1) := by decide +kernel
theorem dL_law_680 : decode cL_law 680 = .ok (.iadd, 1) := by decide +kernel
theorem dL_law_681 : decode cL_law 681 = .ok (.iaload, 1) := by decide +kernel
theorem dL_law_682 : decode cL_law 682 = .ok (.aload_n 0, 1) := by decide +kernel
theorem dL_law_683 : decode cL_law 683 = .ok (.iload 5, 2) := by decide +kernel
theorem dL_law_685 : decode cL_law 685 = .ok (.iconst 2, 1) := by decide +kernel
theorem dL_law_686 : decode cL_law 686 = .ok (.iadd, 1) := by decide +kernel
theorem dL_law_687 : decode cL_law 687 = .ok (.iaload, 1) := by decide +kernel
theorem dL_law_688 : decode cL_law 688 = .ok (.invokevirtual 153, 3) := by decide +kernel
theorem dL_law_691 : decode cL_law 691 = .ok (.istore 7, 2) := by decide +kernel
theorem dL_law_693 : decode cL_law 693 = .ok (.aload_n 2, 1) := by decide +kernel
theorem dL_law_694 : decode cL_law 694 = .ok (.invokevirtual 124, 3) := by decide +kernel
theorem dL_law_697 : decode cL_law 697 = .ok (.iload 6, 2) := by decide +kernel
theorem dL_law_699 : decode cL_law 699 = .ok (.if_icmp .eq 5, 3) := by decide +kernel
theorem dL_law_702 : decode cL_law 702 = .ok (.iconst 0, 1) := by decide +kernel
theorem dL_law_703 : decode cL_law 703 = .ok (.ireturn, 1) := by decide +kernel
theorem dL_law_704 : decode cL_law 704 = .ok (.iload 6, 2) := by decide +kernel
theorem dL_law_706 : decode cL_law 706 = .ok (.ifCond .ne 15, 3) := by decide +kernel
theorem dL_law_709 : decode cL_law 709 = .ok (.aload_n 3, 1) := by decide +kernel
theorem dL_law_710 : decode cL_law 710 = .ok (.iconst 0, 1) := by decide +kernel
theorem dL_law_711 : decode cL_law 711 = .ok (.laload, 1) := by decide +kernel
theorem dL_law_712 : decode cL_law 712 = .ok (.iload 7, 2) := by decide +kernel
theorem dL_law_714 : decode cL_law 714 = .ok (.i2l, 1) := by decide +kernel
theorem dL_law_715 : decode cL_law 715 = .ok (.lcmp, 1) := by decide +kernel
theorem dL_law_716 : decode cL_law 716 = .ok (.ifCond .eq 5, 3) := by decide +kernel
theorem dL_law_719 : decode cL_law 719 = .ok (.iconst 0, 1) := by decide +kernel
theorem dL_law_720 : decode cL_law 720 = .ok (.ireturn, 1) := by decide +kernel
theorem dL_law_721 : decode cL_law 721 = .ok (.goto 1669, 3) := by decide +kernel
theorem dL_law_724 : decode cL_law 724 = .ok (.aload_n 1, 1) := by decide +kernel
theorem dL_law_725 : decode cL_law 725 = .ok (.aload_n 0, 1) := by decide +kernel
theorem dL_law_726 : decode cL_law 726 = .ok (.iload 5, 2) := by decide +kernel
theorem dL_law_728 : decode cL_law 728 = .ok (.iconst 1, 1) := by decide +kernel
theorem dL_law_729 : decode cL_law 729 = .ok (.iadd, 1) := by decide +kernel
theorem dL_law_730 : decode cL_law 730 = .ok (.iaload, 1) := by decide +kernel
theorem dL_law_731 : decode cL_law 731 = .ok (.aload_n 0, 1) := by decide +kernel
theorem dL_law_732 : decode cL_law 732 = .ok (.iload 5, 2) := by decide +kernel
theorem dL_law_734 : decode cL_law 734 = .ok (.iconst 2, 1) := by decide +kernel
theorem dL_law_735 : decode cL_law 735 = .ok (.iadd, 1) := by decide +kernel
theorem dL_law_736 : decode cL_law 736 = .ok (.iaload, 1) := by decide +kernel
theorem dL_law_737 : decode cL_law 737 = .ok (.aload_n 3, 1) := by decide +kernel
theorem dL_law_738 : decode cL_law 738 = .ok (.invokestatic 154, 3) := by decide +kernel
theorem dL_law_741 : decode cL_law 741 = .ok (.istore 6, 2) := by decide +kernel
theorem dL_law_743 : decode cL_law 743 = .ok (.aload_n 2, 1) := by decide +kernel
theorem dL_law_744 : decode cL_law 744 = .ok (.aload_n 0, 1) := by decide +kernel
theorem dL_law_745 : decode cL_law 745 = .ok (.iload 5, 2) := by decide +kernel
theorem dL_law_747 : decode cL_law 747 = .ok (.iconst 1, 1) := by decide +kernel
theorem dL_law_748 : decode cL_law 748 = .ok (.iadd, 1) := by decide +kernel
theorem dL_law_749 : decode cL_law 749 = .ok (.iaload, 1) := by decide +kernel
theorem dL_law_750 : decode cL_law 750 = .ok (.aload_n 0, 1) := by decide +kernel
theorem dL_law_751 : decode cL_law 751 = .ok (.iload 5, 2) := by decide +kernel
theorem dL_law_753 : decode cL_law 753 = .ok (.iconst 2, 1) := by decide +kernel
theorem dL_law_754 : decode cL_law 754 = .ok (.iadd, 1) := by decide +kernel
theorem dL_law_755 : decode cL_law 755 = .ok (.iaload, 1) := by decide +kernel
theorem dL_law_756 : decode cL_law 756 = .ok (.invokevirtual 156, 3) := by decide +kernel
theorem dL_law_759 : decode cL_law 759 = .ok (.lstore 7, 2) := by decide +kernel
theorem dL_law_761 : decode cL_law 761 = .ok (.aload_n 2, 1) := by decide +kernel
theorem dL_law_762 : decode cL_law 762 = .ok (.invokevirtual 124, 3) := by decide +kernel
theorem dL_law_765 : decode cL_law 765 = .ok (.iload 6, 2) := by decide +kernel
theorem dL_law_767 : decode cL_law 767 = .ok (.if_icmp .eq 5, 3) := by decide +kernel
theorem dL_law_770 : decode cL_law 770 = .ok (.iconst 0, 1) := by decide +kernel
theorem dL_law_771 : decode cL_law 771 = .ok (.ireturn, 1) := by decide +kernel
theorem dL_law_772 : decode cL_law 772 = .ok (.iload 6, 2) := by decide +kernel
theorem dL_law_774 : decode cL_law 774 = .ok (.ifCond .ne 14, 3) := by decide +kernel
theorem dL_law_777 : decode cL_law 777 = .ok (.aload_n 3, 1) := by decide +kernel
theorem dL_law_778 : decode cL_law 778 = .ok (.iconst 0, 1) := by decide +kernel
theorem dL_law_779 : decode cL_law 779 = .ok (.laload, 1) := by decide +kernel
theorem dL_law_780 : decode cL_law 780 = .ok (.lload 7, 2) := by decide +kernel
theorem dL_law_782 : decode cL_law 782 = .ok (.lcmp, 1) := by decide +kernel
theorem dL_law_783 : decode cL_law 783 = .ok (.ifCond .eq 5, 3) := by decide +kernel
theorem dL_law_786 : decode cL_law 786 = .ok (.iconst 0, 1) := by decide +kernel
theorem dL_law_787 : decode cL_law 787 = .ok (.ireturn, 1) := by decide +kernel
theorem dL_law_788 : decode cL_law 788 = .ok (.goto 1602, 3) := by decide +kernel
theorem dL_law_791 : decode cL_law 791 = .ok (.aload_n 1, 1) := by decide +kernel
theorem dL_law_792 : decode cL_law 792 = .ok (.aload_n 0, 1) := by decide +kernel
theorem dL_law_793 : decode cL_law 793 = .ok (.iload 5, 2) := by decide +kernel
theorem dL_law_795 : decode cL_law 795 = .ok (.iconst 1, 1) := by decide +kernel
theorem dL_law_796 : decode cL_law 796 = .ok (.iadd, 1) := by decide +kernel
theorem dL_law_797 : decode cL_law 797 = .ok (.iaload, 1) := by decide +kernel
theorem dL_law_798 : decode cL_law 798 = .ok (.aload_n 0, 1) := by decide +kernel
theorem dL_law_799 : decode cL_law 799 = .ok (.iload 5, 2) := by decide +kernel
theorem dL_law_801 : decode cL_law 801 = .ok (.iconst 2, 1) := by decide +kernel
theorem dL_law_802 : decode cL_law 802 = .ok (.iadd, 1) := by decide +kernel
theorem dL_law_803 : decode cL_law 803 = .ok (.iaload, 1) := by decide +kernel
theorem dL_law_804 : decode cL_law 804 = .ok (.aload 4, 2) := by decide +kernel
theorem dL_law_806 : decode cL_law 806 = .ok (.invokestatic 157, 3) := by decide +kernel
theorem dL_law_809 : decode cL_law 809 = .ok (.istore 6, 2) := by decide +kernel
theorem dL_law_811 : decode cL_law 811 = .ok (.aload_n 2, 1) := by decide +kernel
theorem dL_law_812 : decode cL_law 812 = .ok (.aload_n 0, 1) := by decide +kernel
theorem dL_law_813 : decode cL_law 813 = .ok (.iload 5, 2) := by decide +kernel
theorem dL_law_815 : decode cL_law 815 = .ok (.iconst 1, 1) := by decide +kernel
theorem dL_law_816 : decode cL_law 816 = .ok (.iadd, 1) := by decide +kernel
theorem dL_law_817 : decode cL_law 817 = .ok (.iaload, 1) := by decide +kernel
theorem dL_law_818 : decode cL_law 818 = .ok (.aload_n 0, 1) := by decide +kernel
theorem dL_law_819 : decode cL_law 819 = .ok (.iload 5, 2) := by decide +kernel
theorem dL_law_821 : decode cL_law 821 = .ok (.iconst 2, 1) := by decide +kernel
theorem dL_law_822 : decode cL_law 822 = .ok (.iadd, 1) := by decide +kernel
theorem dL_law_823 : decode cL_law 823 = .ok (.iaload, 1) := by decide +kernel
theorem dL_law_824 : decode cL_law 824 = .ok (.invokevirtual 160, 3) := by decide +kernel
theorem dL_law_827 : decode cL_law 827 = .ok (.fstore 7, 2) := by decide +kernel
theorem dL_law_829 : decode cL_law 829 = .ok (.aload_n 2, 1) := by decide +kernel
theorem dL_law_830 : decode cL_law 830 = .ok (.invokevirtual 124, 3) := by decide +kernel
theorem dL_law_833 : decode cL_law 833 = .ok (.iload 6, 2) := by decide +kernel
theorem dL_law_835 : decode cL_law 835 = .ok (.if_icmp .eq 5, 3) := by decide +kernel
theorem dL_law_838 : decode cL_law 838 = .ok (.iconst 0, 1) := by decide +kernel
theorem dL_law_839 : decode cL_law 839 = .ok (.ireturn, 1) := by decide +kernel
theorem dL_law_840 : decode cL_law 840 = .ok (.iload 6, 2) := by decide +kernel
theorem dL_law_842 : decode cL_law 842 = .ok (.ifCond .ne 36, 3) := by decide +kernel
theorem dL_law_845 : decode cL_law 845 = .ok (.aload 4, 2) := by decide +kernel
theorem dL_law_847 : decode cL_law 847 = .ok (.iconst 0, 1) := by decide +kernel
theorem dL_law_848 : decode cL_law 848 = .ok (.daload, 1) := by decide +kernel
theorem dL_law_849 : decode cL_law 849 = .ok (.fload 7, 2) := by decide +kernel
theorem dL_law_851 : decode cL_law 851 = .ok (.f2d, 1) := by decide +kernel
theorem dL_law_852 : decode cL_law 852 = .ok (.dcmp .l, 1) := by decide +kernel
theorem dL_law_853 : decode cL_law 853 = .ok (.ifCond .eq 25, 3) := by decide +kernel
theorem dL_law_856 : decode cL_law 856 = .ok (.aload 4, 2) := by decide +kernel
theorem dL_law_858 : decode cL_law 858 = .ok (.iconst 0, 1) := by decide +kernel
theorem dL_law_859 : decode cL_law 859 = .ok (.daload, 1) := by decide +kernel
theorem dL_law_860 : decode cL_law 860 = .ok (.aload 4, 2) := by decide +kernel
theorem dL_law_862 : decode cL_law 862 = .ok (.iconst 0, 1) := by decide +kernel
theorem dL_law_863 : decode cL_law 863 = .ok (.daload, 1) := by decide +kernel
theorem dL_law_864 : decode cL_law 864 = .ok (.dcmp .l, 1) := by decide +kernel
theorem dL_law_865 : decode cL_law 865 = .ok (.ifCond .eq 11, 3) := by decide +kernel
theorem dL_law_868 : decode cL_law 868 = .ok (.fload 7, 2) := by decide +kernel
theorem dL_law_870 : decode cL_law 870 = .ok (.fload 7, 2) := by decide +kernel
theorem dL_law_872 : decode cL_law 872 = .ok (.fcmp .l, 1) := by decide +kernel
theorem dL_law_873 : decode cL_law 873 = .ok (.ifCond .ne 5, 3) := by decide +kernel
theorem dL_law_876 : decode cL_law 876 = .ok (.iconst 0, 1) := by decide +kernel
theorem dL_law_877 : decode cL_law 877 = .ok (.ireturn, 1) := by decide +kernel
theorem dL_law_878 : decode cL_law 878 = .ok (.goto 1512, 3) := by decide +kernel
theorem dL_law_881 : decode cL_law 881 = .ok (.aload_n 1, 1) := by decide +kernel
theorem dL_law_882 : decode cL_law 882 = .ok (.aload_n 0, 1) := by decide +kernel
theorem dL_law_883 : decode cL_law 883 = .ok (.iload 5, 2) := by decide +kernel
theorem dL_law_885 : decode cL_law 885 = .ok (.iconst 1, 1) := by decide +kernel
theorem dL_law_886 : decode cL_law 886 = .ok (.iadd, 1) := by decide +kernel
theorem dL_law_887 : decode cL_law 887 = .ok (.iaload, 1) := by decide +kernel
theorem dL_law_888 : decode cL_law 888 = .ok (.aload_n 0, 1) := by decide +kernel
theorem dL_law_889 : decode cL_law 889 = .ok (.iload 5, 2) := by decide +kernel
theorem dL_law_891 : decode cL_law 891 = .ok (.iconst 2, 1) := by decide +kernel
theorem dL_law_892 : decode cL_law 892 = .ok (.iadd, 1) := by decide +kernel
theorem dL_law_893 : decode cL_law 893 = .ok (.iaload, 1) := by decide +kernel
theorem dL_law_894 : decode cL_law 894 = .ok (.aload 4, 2) := by decide +kernel
theorem dL_law_896 : decode cL_law 896 = .ok (.invokestatic 161, 3) := by decide +kernel
theorem dL_law_899 : decode cL_law 899 = .ok (.istore 6, 2) := by decide +kernel
theorem dL_law_901 : decode cL_law 901 = .ok (.aload_n 2, 1) := by decide +kernel
theorem dL_law_902 : decode cL_law 902 = .ok (.aload_n 0, 1) := by decide +kernel
theorem dL_law_903 : decode cL_law 903 = .ok (.iload 5, 2) := by decide +kernel
theorem dL_law_905 : decode cL_law 905 = .ok (.iconst 1, 1) := by decide +kernel
theorem dL_law_906 : decode cL_law 906 = .ok (.iadd, 1) := by decide +kernel
theorem dL_law_907 : decode cL_law 907 = .ok (.iaload, 1) := by decide +kernel
theorem dL_law_908 : decode cL_law 908 = .ok (.aload_n 0, 1) := by decide +kernel
theorem dL_law_909 : decode cL_law 909 = .ok (.iload 5, 2) := by decide +kernel
theorem dL_law_911 : decode cL_law 911 = .ok (.iconst 2, 1) := by decide +kernel
theorem dL_law_912 : decode cL_law 912 = .ok (.iadd, 1) := by decide +kernel
theorem dL_law_913 : decode cL_law 913 = .ok (.iaload, 1) := by decide +kernel
theorem dL_law_914 : decode cL_law 914 = .ok (.invokevirtual 163, 3) := by decide +kernel
theorem dL_law_917 : decode cL_law 917 = .ok (.dstore 7, 2) := by decide +kernel
theorem dL_law_919 : decode cL_law 919 = .ok (.aload_n 2, 1) := by decide +kernel
theorem dL_law_920 : decode cL_law 920 = .ok (.invokevirtual 124, 3) := by decide +kernel
theorem dL_law_923 : decode cL_law 923 = .ok (.iload 6, 2) := by decide +kernel
theorem dL_law_925 : decode cL_law 925 = .ok (.if_icmp .eq 5, 3) := by decide +kernel
theorem dL_law_928 : decode cL_law 928 = .ok (.iconst 0, 1) := by decide +kernel
theorem dL_law_929 : decode cL_law 929 = .ok (.ireturn, 1) := by decide +kernel
theorem dL_law_930 : decode cL_law 930 = .ok (.iload 6, 2) := by decide +kernel
theorem dL_law_932 : decode cL_law 932 = .ok (.ifCond .ne 35, 3) := by decide +kernel
theorem dL_law_935 : decode cL_law 935 = .ok (.aload 4, 2) := by decide +kernel
theorem dL_law_937 : decode cL_law 937 = .ok (.iconst 0, 1) := by decide +kernel
theorem dL_law_938 : decode cL_law 938 = .ok (.daload, 1) := by decide +kernel
theorem dL_law_939 : decode cL_law 939 = .ok (.dload 7, 2) := by decide +kernel
theorem dL_law_941 : decode cL_law 941 = .ok (.dcmp .l, 1) := by decide +kernel
theorem dL_law_942 : decode cL_law 942 = .ok (.ifCond .eq 25, 3) := by decide +kernel
theorem dL_law_945 : decode cL_law 945 = .ok (.aload 4, 2) := by decide +kernel
theorem dL_law_947 : decode cL_law 947 = .ok (.iconst 0, 1) := by decide +kernel
theorem dL_law_948 : decode cL_law 948 = .ok (.daload, 1) := by decide +kernel
theorem dL_law_949 : decode cL_law 949 = .ok (.aload 4, 2) := by decide +kernel
theorem dL_law_951 : decode cL_law 951 = .ok (.iconst 0, 1) := by decide +kernel
theorem dL_law_952 : decode cL_law 952 = .ok (.daload, 1) := by decide +kernel
theorem dL_law_953 : decode cL_law 953 = .ok (.dcmp .l, 1) := by decide +kernel
theorem dL_law_954 : decode cL_law 954 = .ok (.ifCond .eq 11, 3) := by decide +kernel
theorem dL_law_957 : decode cL_law 957 = .ok (.dload 7, 2) := by decide +kernel
theorem dL_law_959 : decode cL_law 959 = .ok (.dload 7, 2) := by decide +kernel
theorem dL_law_961 : decode cL_law 961 = .ok (.dcmp .l, 1) := by decide +kernel
theorem dL_law_962 : decode cL_law 962 = .ok (.ifCond .ne 5, 3) := by decide +kernel
theorem dL_law_965 : decode cL_law 965 = .ok (.iconst 0, 1) := by decide +kernel
theorem dL_law_966 : decode cL_law 966 = .ok (.ireturn, 1) := by decide +kernel
theorem dL_law_967 : decode cL_law 967 = .ok (.goto 1423, 3) := by decide +kernel
theorem dL_law_970 : decode cL_law 970 = .ok (.aload_n 1, 1) := by decide +kernel
theorem dL_law_971 : decode cL_law 971 = .ok (.aload_n 0, 1) := by decide +kernel
theorem dL_law_972 : decode cL_law 972 = .ok (.iload 5, 2) := by decide +kernel
theorem dL_law_974 : decode cL_law 974 = .ok (.iconst 1, 1) := by decide +kernel
theorem dL_law_975 : decode cL_law 975 = .ok (.iadd, 1) := by decide +kernel
theorem dL_law_976 : decode cL_law 976 = .ok (.iaload, 1) := by decide +kernel
theorem dL_law_977 : decode cL_law 977 = .ok (.aload_n 0, 1) := by decide +kernel
theorem dL_law_978 : decode cL_law 978 = .ok (.iload 5, 2) := by decide +kernel
theorem dL_law_980 : decode cL_law 980 = .ok (.iconst 2, 1) := by decide +kernel
theorem dL_law_981 : decode cL_law 981 = .ok (.iadd, 1) := by decide +kernel
theorem dL_law_982 : decode cL_law 982 = .ok (.iaload, 1) := by decide +kernel
theorem dL_law_983 : decode cL_law 983 = .ok (.aload 4, 2) := by decide +kernel
theorem dL_law_985 : decode cL_law 985 = .ok (.invokestatic 164, 3) := by decide +kernel
theorem dL_law_988 : decode cL_law 988 = .ok (.istore 6, 2) := by decide +kernel
theorem dL_law_990 : decode cL_law 990 = .ok (.aload_n 2, 1) := by decide +kernel
theorem dL_law_991 : decode cL_law 991 = .ok (.aload_n 0, 1) := by decide +kernel
theorem dL_law_992 : decode cL_law 992 = .ok (.iload 5, 2) := by decide +kernel
theorem dL_law_994 : decode cL_law 994 = .ok (.iconst 1, 1) := by decide +kernel
theorem dL_law_995 : decode cL_law 995 = .ok (.iadd, 1) := by decide +kernel
theorem dL_law_996 : decode cL_law 996 = .ok (.iaload, 1) := by decide +kernel
theorem dL_law_997 : decode cL_law 997 = .ok (.aload_n 0, 1) := by decide +kernel
theorem dL_law_998 : decode cL_law 998 = .ok (.iload 5, 2) := by decide +kernel
theorem dL_law_1000 : decode cL_law 1000 = .ok (.iconst 2, 1) := by decide +kernel
theorem dL_law_1001 : decode cL_law 1001 = .ok (.iadd, 1) := by decide +kernel
theorem dL_law_1002 : decode cL_law 1002 = .ok (.iaload, 1) := by decide +kernel
theorem dL_law_1003 : decode cL_law 1003 = .ok (.invokevirtual 166, 3) := by decide +kernel
theorem dL_law_1006 : decode cL_law 1006 = .ok (.dstore 7, 2) := by decide +kernel
theorem dL_law_1008 : decode cL_law 1008 = .ok (.aload_n 2, 1) := by decide +kernel
theorem dL_law_1009 : decode cL_law 1009 = .ok (.invokevirtual 124, 3) := by decide +kernel
theorem dL_law_1012 : decode cL_law 1012 = .ok (.iload 6, 2) := by decide +kernel
theorem dL_law_1014 : decode cL_law 1014 = .ok (.if_icmp .eq 5, 3) := by decide +kernel
theorem dL_law_1017 : decode cL_law 1017 = .ok (.iconst 0, 1) := by decide +kernel
theorem dL_law_1018 : decode cL_law 1018 = .ok (.ireturn, 1) := by decide +kernel
theorem dL_law_1019 : decode cL_law 1019 = .ok (.iload 6, 2) := by decide +kernel
theorem dL_law_1021 : decode cL_law 1021 = .ok (.ifCond .ne 35, 3) := by decide +kernel
theorem dL_law_1024 : decode cL_law 1024 = .ok (.aload 4, 2) := by decide +kernel
theorem dL_law_1026 : decode cL_law 1026 = .ok (.iconst 0, 1) := by decide +kernel
theorem dL_law_1027 : decode cL_law 1027 = .ok (.daload, 1) := by decide +kernel
theorem dL_law_1028 : decode cL_law 1028 = .ok (.dload 7, 2) := by decide +kernel
theorem dL_law_1030 : decode cL_law 1030 = .ok (.dcmp .l, 1) := by decide +kernel
theorem dL_law_1031 : decode cL_law 1031 = .ok (.ifCond .eq 25, 3) := by decide +kernel
theorem dL_law_1034 : decode cL_law 1034 = .ok (.aload 4, 2) := by decide +kernel
theorem dL_law_1036 : decode cL_law 1036 = .ok (.iconst 0, 1) := by decide +kernel
theorem dL_law_1037 : decode cL_law 1037 = .ok (.daload, 1) := by decide +kernel
theorem dL_law_1038 : decode cL_law 1038 = .ok (.aload 4, 2) := by decide +kernel
theorem dL_law_1040 : decode cL_law 1040 = .ok (.iconst 0, 1) := by decide +kernel
theorem dL_law_1041 : decode cL_law 1041 = .ok (.daload, 1) := by decide +kernel
theorem dL_law_1042 : decode cL_law 1042 = .ok (.dcmp .l, 1) := by decide +kernel
theorem dL_law_1043 : decode cL_law 1043 = .ok (.ifCond .eq 11, 3) := by decide +kernel
theorem dL_law_1046 : decode cL_law 1046 = .ok (.dload 7, 2) := by decide +kernel
theorem dL_law_1048 : decode cL_law 1048 = .ok (.dload 7, 2) := by decide +kernel
theorem dL_law_1050 : decode cL_law 1050 = .ok (.dcmp .l, 1) := by decide +kernel
theorem dL_law_1051 : decode cL_law 1051 = .ok (.ifCond .ne 5, 3) := by decide +kernel
theorem dL_law_1054 : decode cL_law 1054 = .ok (.iconst 0, 1) := by decide +kernel
theorem dL_law_1055 : decode cL_law 1055 = .ok (.ireturn, 1) := by decide +kernel
theorem dL_law_1056 : decode cL_law 1056 = .ok (.goto 1334, 3) := by decide +kernel
theorem dL_law_1059 : decode cL_law 1059 = .ok (.aload_n 1, 1) := by decide +kernel
theorem dL_law_1060 : decode cL_law 1060 = .ok (.aload_n 0, 1) := by decide +kernel
theorem dL_law_1061 : decode cL_law 1061 = .ok (.iload 5, 2) := by decide +kernel
theorem dL_law_1063 : decode cL_law 1063 = .ok (.iconst 1, 1) := by decide +kernel
theorem dL_law_1064 : decode cL_law 1064 = .ok (.iadd, 1) := by decide +kernel
theorem dL_law_1065 : decode cL_law 1065 = .ok (.iaload, 1) := by decide +kernel
theorem dL_law_1066 : decode cL_law 1066 = .ok (.aload_n 0, 1) := by decide +kernel
theorem dL_law_1067 : decode cL_law 1067 = .ok (.iload 5, 2) := by decide +kernel
theorem dL_law_1069 : decode cL_law 1069 = .ok (.iconst 2, 1) := by decide +kernel
theorem dL_law_1070 : decode cL_law 1070 = .ok (.iadd, 1) := by decide +kernel
theorem dL_law_1071 : decode cL_law 1071 = .ok (.iaload, 1) := by decide +kernel
theorem dL_law_1072 : decode cL_law 1072 = .ok (.aload_n 0, 1) := by decide +kernel
theorem dL_law_1073 : decode cL_law 1073 = .ok (.iload 5, 2) := by decide +kernel
theorem dL_law_1075 : decode cL_law 1075 = .ok (.iconst 3, 1) := by decide +kernel
theorem dL_law_1076 : decode cL_law 1076 = .ok (.iadd, 1) := by decide +kernel
theorem dL_law_1077 : decode cL_law 1077 = .ok (.iaload, 1) := by decide +kernel
theorem dL_law_1078 : decode cL_law 1078 = .ok (.ifCond .eq 7, 3) := by decide +kernel
theorem dL_law_1081 : decode cL_law 1081 = .ok (.iconst 1, 1) := by decide +kernel
theorem dL_law_1082 : decode cL_law 1082 = .ok (.goto 4, 3) := by decide +kernel
theorem dL_law_1085 : decode cL_law 1085 = .ok (.iconst 0, 1) := by decide +kernel
theorem dL_law_1086 : decode cL_law 1086 = .ok (.aload_n 3, 1) := by decide +kernel
theorem dL_law_1087 : decode cL_law 1087 = .ok (.invokestatic 167, 3) := by decide +kernel
theorem dL_law_1090 : decode cL_law 1090 = .ok (.istore 6, 2) := by decide +kernel
theorem dL_law_1092 : decode cL_law 1092 = .ok (.aload_n 2, 1) := by decide +kernel
theorem dL_law_1093 : decode cL_law 1093 = .ok (.aload_n 0, 1) := by decide +kernel
theorem dL_law_1094 : decode cL_law 1094 = .ok (.iload 5, 2) := by decide +kernel
theorem dL_law_1096 : decode cL_law 1096 = .ok (.iconst 1, 1) := by decide +kernel
theorem dL_law_1097 : decode cL_law 1097 = .ok (.iadd, 1) := by decide +kernel
theorem dL_law_1098 : decode cL_law 1098 = .ok (.iaload, 1) := by decide +kernel
theorem dL_law_1099 : decode cL_law 1099 = .ok (.aload_n 0, 1) := by decide +kernel
theorem dL_law_1100 : decode cL_law 1100 = .ok (.iload 5, 2) := by decide +kernel
theorem dL_law_1102 : decode cL_law 1102 = .ok (.iconst 2, 1) := by decide +kernel
theorem dL_law_1103 : decode cL_law 1103 = .ok (.iadd, 1) := by decide +kernel
theorem dL_law_1104 : decode cL_law 1104 = .ok (.iaload, 1) := by decide +kernel
theorem dL_law_1105 : decode cL_law 1105 = .ok (.aload_n 0, 1) := by decide +kernel
theorem dL_law_1106 : decode cL_law 1106 = .ok (.iload 5, 2) := by decide +kernel
theorem dL_law_1108 : decode cL_law 1108 = .ok (.iconst 3, 1) := by decide +kernel
theorem dL_law_1109 : decode cL_law 1109 = .ok (.iadd, 1) := by decide +kernel
theorem dL_law_1110 : decode cL_law 1110 = .ok (.iaload, 1) := by decide +kernel
theorem dL_law_1111 : decode cL_law 1111 = .ok (.ifCond .eq 7, 3) := by decide +kernel
theorem dL_law_1114 : decode cL_law 1114 = .ok (.iconst 1, 1) := by decide +kernel
theorem dL_law_1115 : decode cL_law 1115 = .ok (.goto 4, 3) := by decide +kernel
theorem dL_law_1118 : decode cL_law 1118 = .ok (.iconst 0, 1) := by decide +kernel
theorem dL_law_1119 : decode cL_law 1119 = .ok (.invokevirtual 170, 3) := by decide +kernel
theorem dL_law_1122 : decode cL_law 1122 = .ok (.istore 7, 2) := by decide +kernel
theorem dL_law_1124 : decode cL_law 1124 = .ok (.aload_n 2, 1) := by decide +kernel
theorem dL_law_1125 : decode cL_law 1125 = .ok (.invokevirtual 124, 3) := by decide +kernel
theorem dL_law_1128 : decode cL_law 1128 = .ok (.iload 6, 2) := by decide +kernel
theorem dL_law_1130 : decode cL_law 1130 = .ok (.if_icmp .eq 5, 3) := by decide +kernel
theorem dL_law_1133 : decode cL_law 1133 = .ok (.iconst 0, 1) := by decide +kernel
theorem dL_law_1134 : decode cL_law 1134 = .ok (.ireturn, 1) := by decide +kernel
theorem dL_law_1135 : decode cL_law 1135 = .ok (.iload 6, 2) := by decide +kernel
theorem dL_law_1137 : decode cL_law 1137 = .ok (.ifCond .ne 15, 3) := by decide +kernel
theorem dL_law_1140 : decode cL_law 1140 = .ok (.aload_n 3, 1) := by decide +kernel
theorem dL_law_1141 : decode cL_law 1141 = .ok (.iconst 0, 1) := by decide +kernel
theorem dL_law_1142 : decode cL_law 1142 = .ok (.laload, 1) := by decide +kernel
theorem dL_law_1143 : decode cL_law 1143 = .ok (.iload 7, 2) := by decide +kernel
theorem dL_law_1145 : decode cL_law 1145 = .ok (.i2l, 1) := by decide +kernel
theorem dL_law_1146 : decode cL_law 1146 = .ok (.lcmp, 1) := by decide +kernel
theorem dL_law_1147 : decode cL_law 1147 = .ok (.ifCond .eq 5, 3) := by decide +kernel
theorem dL_law_1150 : decode cL_law 1150 = .ok (.iconst 0, 1) := by decide +kernel
theorem dL_law_1151 : decode cL_law 1151 = .ok (.ireturn, 1) := by decide +kernel
theorem dL_law_1152 : decode cL_law 1152 = .ok (.goto 1238, 3) := by decide +kernel
theorem dL_law_1155 : decode cL_law 1155 = .ok (.aload_n 1, 1) := by decide +kernel
theorem dL_law_1156 : decode cL_law 1156 = .ok (.aload_n 0, 1) := by decide +kernel
theorem dL_law_1157 : decode cL_law 1157 = .ok (.iload 5, 2) := by decide +kernel
theorem dL_law_1159 : decode cL_law 1159 = .ok (.iconst 1, 1) := by decide +kernel
theorem dL_law_1160 : decode cL_law 1160 = .ok (.iadd, 1) := by decide +kernel
theorem dL_law_1161 : decode cL_law 1161 = .ok (.iaload, 1) := by decide +kernel
theorem dL_law_1162 : decode cL_law 1162 = .ok (.aload_n 0, 1) := by decide +kernel
theorem dL_law_1163 : decode cL_law 1163 = .ok (.iload 5, 2) := by decide +kernel
theorem dL_law_1165 : decode cL_law 1165 = .ok (.iconst 2, 1) := by decide +kernel
theorem dL_law_1166 : decode cL_law 1166 = .ok (.iadd, 1) := by decide +kernel
theorem dL_law_1167 : decode cL_law 1167 = .ok (.iaload, 1) := by decide +kernel
theorem dL_law_1168 : decode cL_law 1168 = .ok (.aload_n 0, 1) := by decide +kernel
theorem dL_law_1169 : decode cL_law 1169 = .ok (.iload 5, 2) := by decide +kernel
theorem dL_law_1171 : decode cL_law 1171 = .ok (.iconst 3, 1) := by decide +kernel
theorem dL_law_1172 : decode cL_law 1172 = .ok (.iadd, 1) := by decide +kernel
theorem dL_law_1173 : decode cL_law 1173 = .ok (.iaload, 1) := by decide +kernel
theorem dL_law_1174 : decode cL_law 1174 = .ok (.aload_n 3, 1) := by decide +kernel
theorem dL_law_1175 : decode cL_law 1175 = .ok (.invokestatic 171, 3) := by decide +kernel
theorem dL_law_1178 : decode cL_law 1178 = .ok (.istore 6, 2) := by decide +kernel
theorem dL_law_1180 : decode cL_law 1180 = .ok (.aload_n 2, 1) := by decide +kernel
theorem dL_law_1181 : decode cL_law 1181 = .ok (.aload_n 0, 1) := by decide +kernel
theorem dL_law_1182 : decode cL_law 1182 = .ok (.iload 5, 2) := by decide +kernel
theorem dL_law_1184 : decode cL_law 1184 = .ok (.iconst 1, 1) := by decide +kernel
theorem dL_law_1185 : decode cL_law 1185 = .ok (.iadd, 1) := by decide +kernel
theorem dL_law_1186 : decode cL_law 1186 = .ok (.iaload, 1) := by decide +kernel
theorem dL_law_1187 : decode cL_law 1187 = .ok (.aload_n 0, 1) := by decide +kernel
theorem dL_law_1188 : decode cL_law 1188 = .ok (.iload 5, 2) := by decide +kernel
theorem dL_law_1190 : decode cL_law 1190 = .ok (.iconst 2, 1) := by decide +kernel
theorem dL_law_1191 : decode cL_law 1191 = .ok (.iadd, 1) := by decide +kernel
theorem dL_law_1192 : decode cL_law 1192 = .ok (.iaload, 1) := by decide +kernel
theorem dL_law_1193 : decode cL_law 1193 = .ok (.aload_n 0, 1) := by decide +kernel
theorem dL_law_1194 : decode cL_law 1194 = .ok (.iload 5, 2) := by decide +kernel
theorem dL_law_1196 : decode cL_law 1196 = .ok (.iconst 3, 1) := by decide +kernel
theorem dL_law_1197 : decode cL_law 1197 = .ok (.iadd, 1) := by decide +kernel
theorem dL_law_1198 : decode cL_law 1198 = .ok (.iaload, 1) := by decide +kernel
theorem dL_law_1199 : decode cL_law 1199 = .ok (.invokevirtual 174, 3) := by decide +kernel
theorem dL_law_1202 : decode cL_law 1202 = .ok (.istore 7, 2) := by decide +kernel
theorem dL_law_1204 : decode cL_law 1204 = .ok (.aload_n 2, 1) := by decide +kernel
theorem dL_law_1205 : decode cL_law 1205 = .ok (.invokevirtual 124, 3) := by decide +kernel
theorem dL_law_1208 : decode cL_law 1208 = .ok (.iload 6, 2) := by decide +kernel
theorem dL_law_1210 : decode cL_law 1210 = .ok (.if_icmp .eq 5, 3) := by decide +kernel
theorem dL_law_1213 : decode cL_law 1213 = .ok (.iconst 0, 1) := by decide +kernel
theorem dL_law_1214 : decode cL_law 1214 = .ok (.ireturn, 1) := by decide +kernel
theorem dL_law_1215 : decode cL_law 1215 = .ok (.iload 6, 2) := by decide +kernel
theorem dL_law_1217 : decode cL_law 1217 = .ok (.ifCond .ne 15, 3) := by decide +kernel
theorem dL_law_1220 : decode cL_law 1220 = .ok (.aload_n 3, 1) := by decide +kernel
theorem dL_law_1221 : decode cL_law 1221 = .ok (.iconst 0, 1) := by decide +kernel
theorem dL_law_1222 : decode cL_law 1222 = .ok (.laload, 1) := by decide +kernel
theorem dL_law_1223 : decode cL_law 1223 = .ok (.iload 7, 2) := by decide +kernel
theorem dL_law_1225 : decode cL_law 1225 = .ok (.i2l, 1) := by decide +kernel
theorem dL_law_1226 : decode cL_law 1226 = .ok (.lcmp, 1) := by decide +kernel
theorem dL_law_1227 : decode cL_law 1227 = .ok (.ifCond .eq 5, 3) := by decide +kernel
theorem dL_law_1230 : decode cL_law 1230 = .ok (.iconst 0, 1) := by decide +kernel
theorem dL_law_1231 : decode cL_law 1231 = .ok (.ireturn, 1) := by decide +kernel
theorem dL_law_1232 : decode cL_law 1232 = .ok (.goto 1158, 3) := by decide +kernel
theorem dL_law_1235 : decode cL_law 1235 = .ok (.aload_n 1, 1) := by decide +kernel
theorem dL_law_1236 : decode cL_law 1236 = .ok (.aload_n 0, 1) := by decide +kernel
theorem dL_law_1237 : decode cL_law 1237 = .ok (.iload 5, 2) := by decide +kernel
theorem dL_law_1239 : decode cL_law 1239 = .ok (.iconst 1, 1) := by decide +kernel
theorem dL_law_1240 : decode cL_law 1240 = .ok (.iadd, 1) := by decide +kernel
theorem dL_law_1241 : decode cL_law 1241 = .ok (.iaload, 1) := by decide +kernel
theorem dL_law_1242 : decode cL_law 1242 = .ok (.aload_n 0, 1) := by decide +kernel
theorem dL_law_1243 : decode cL_law 1243 = .ok (.iload 5, 2) := by decide +kernel
theorem dL_law_1245 : decode cL_law 1245 = .ok (.iconst 2, 1) := by decide +kernel
theorem dL_law_1246 : decode cL_law 1246 = .ok (.iadd, 1) := by decide +kernel
theorem dL_law_1247 : decode cL_law 1247 = .ok (.iaload, 1) := by decide +kernel
theorem dL_law_1248 : decode cL_law 1248 = .ok (.aload_n 0, 1) := by decide +kernel
theorem dL_law_1249 : decode cL_law 1249 = .ok (.iload 5, 2) := by decide +kernel
theorem dL_law_1251 : decode cL_law 1251 = .ok (.iconst 3, 1) := by decide +kernel
theorem dL_law_1252 : decode cL_law 1252 = .ok (.iadd, 1) := by decide +kernel
theorem dL_law_1253 : decode cL_law 1253 = .ok (.iaload, 1) := by decide +kernel
theorem dL_law_1254 : decode cL_law 1254 = .ok (.aload_n 3, 1) := by decide +kernel
theorem dL_law_1255 : decode cL_law 1255 = .ok (.invokestatic 175, 3) := by decide +kernel
theorem dL_law_1258 : decode cL_law 1258 = .ok (.istore 6, 2) := by decide +kernel
theorem dL_law_1260 : decode cL_law 1260 = .ok (.aload_n 2, 1) := by decide +kernel
theorem dL_law_1261 : decode cL_law 1261 = .ok (.aload_n 0, 1) := by decide +kernel
theorem dL_law_1262 : decode cL_law 1262 = .ok (.iload 5, 2) := by decide +kernel
theorem dL_law_1264 : decode cL_law 1264 = .ok (.iconst 1, 1) := by decide +kernel
theorem dL_law_1265 : decode cL_law 1265 = .ok (.iadd, 1) := by decide +kernel
theorem dL_law_1266 : decode cL_law 1266 = .ok (.iaload, 1) := by decide +kernel
theorem dL_law_1267 : decode cL_law 1267 = .ok (.aload_n 0, 1) := by decide +kernel
theorem dL_law_1268 : decode cL_law 1268 = .ok (.iload 5, 2) := by decide +kernel
theorem dL_law_1270 : decode cL_law 1270 = .ok (.iconst 2, 1) := by decide +kernel
theorem dL_law_1271 : decode cL_law 1271 = .ok (.iadd, 1) := by decide +kernel
theorem dL_law_1272 : decode cL_law 1272 = .ok (.iaload, 1) := by decide +kernel
theorem dL_law_1273 : decode cL_law 1273 = .ok (.aload_n 0, 1) := by decide +kernel
theorem dL_law_1274 : decode cL_law 1274 = .ok (.iload 5, 2) := by decide +kernel
theorem dL_law_1276 : decode cL_law 1276 = .ok (.iconst 3, 1) := by decide +kernel
theorem dL_law_1277 : decode cL_law 1277 = .ok (.iadd, 1) := by decide +kernel
theorem dL_law_1278 : decode cL_law 1278 = .ok (.iaload, 1) := by decide +kernel
theorem dL_law_1279 : decode cL_law 1279 = .ok (.invokevirtual 177, 3) := by decide +kernel
theorem dL_law_1282 : decode cL_law 1282 = .ok (.istore 7, 2) := by decide +kernel
theorem dL_law_1284 : decode cL_law 1284 = .ok (.aload_n 2, 1) := by decide +kernel
theorem dL_law_1285 : decode cL_law 1285 = .ok (.invokevirtual 124, 3) := by decide +kernel
theorem dL_law_1288 : decode cL_law 1288 = .ok (.iload 6, 2) := by decide +kernel
theorem dL_law_1290 : decode cL_law 1290 = .ok (.if_icmp .eq 5, 3) := by decide +kernel
theorem dL_law_1293 : decode cL_law 1293 = .ok (.iconst 0, 1) := by decide +kernel
theorem dL_law_1294 : decode cL_law 1294 = .ok (.ireturn, 1) := by decide +kernel
theorem dL_law_1295 : decode cL_law 1295 = .ok (.iload 6, 2) := by decide +kernel
theorem dL_law_1297 : decode cL_law 1297 = .ok (.ifCond .ne 15, 3) := by decide +kernel
theorem dL_law_1300 : decode cL_law 1300 = .ok (.aload_n 3, 1) := by decide +kernel
theorem dL_law_1301 : decode cL_law 1301 = .ok (.iconst 0, 1) := by decide +kernel
theorem dL_law_1302 : decode cL_law 1302 = .ok (.laload, 1) := by decide +kernel
theorem dL_law_1303 : decode cL_law 1303 = .ok (.iload 7, 2) := by decide +kernel
theorem dL_law_1305 : decode cL_law 1305 = .ok (.i2l, 1) := by decide +kernel
theorem dL_law_1306 : decode cL_law 1306 = .ok (.lcmp, 1) := by decide +kernel
theorem dL_law_1307 : decode cL_law 1307 = .ok (.ifCond .eq 5, 3) := by decide +kernel
theorem dL_law_1310 : decode cL_law 1310 = .ok (.iconst 0, 1) := by decide +kernel
theorem dL_law_1311 : decode cL_law 1311 = .ok (.ireturn, 1) := by decide +kernel
theorem dL_law_1312 : decode cL_law 1312 = .ok (.goto 1078, 3) := by decide +kernel
theorem dL_law_1315 : decode cL_law 1315 = .ok (.aload_n 1, 1) := by decide +kernel
theorem dL_law_1316 : decode cL_law 1316 = .ok (.aload_n 0, 1) := by decide +kernel
theorem dL_law_1317 : decode cL_law 1317 = .ok (.iload 5, 2) := by decide +kernel
theorem dL_law_1319 : decode cL_law 1319 = .ok (.iconst 1, 1) := by decide +kernel
theorem dL_law_1320 : decode cL_law 1320 = .ok (.iadd, 1) := by decide +kernel
theorem dL_law_1321 : decode cL_law 1321 = .ok (.iaload, 1) := by decide +kernel
theorem dL_law_1322 : decode cL_law 1322 = .ok (.aload_n 0, 1) := by decide +kernel
theorem dL_law_1323 : decode cL_law 1323 = .ok (.iload 5, 2) := by decide +kernel
theorem dL_law_1325 : decode cL_law 1325 = .ok (.iconst 2, 1) := by decide +kernel
theorem dL_law_1326 : decode cL_law 1326 = .ok (.iadd, 1) := by decide +kernel
theorem dL_law_1327 : decode cL_law 1327 = .ok (.iaload, 1) := by decide +kernel
theorem dL_law_1328 : decode cL_law 1328 = .ok (.aload_n 0, 1) := by decide +kernel
theorem dL_law_1329 : decode cL_law 1329 = .ok (.iload 5, 2) := by decide +kernel
theorem dL_law_1331 : decode cL_law 1331 = .ok (.iconst 3, 1) := by decide +kernel
theorem dL_law_1332 : decode cL_law 1332 = .ok (.iadd, 1) := by decide +kernel
theorem dL_law_1333 : decode cL_law 1333 = .ok (.iaload, 1) := by decide +kernel
theorem dL_law_1334 : decode cL_law 1334 = .ok (.aload_n 3, 1) := by decide +kernel
theorem dL_law_1335 : decode cL_law 1335 = .ok (.invokestatic 178, 3) := by decide +kernel
theorem dL_law_1338 : decode cL_law 1338 = .ok (.istore 6, 2) := by decide +kernel
theorem dL_law_1340 : decode cL_law 1340 = .ok (.aload_n 2, 1) := by decide +kernel
theorem dL_law_1341 : decode cL_law 1341 = .ok (.aload_n 0, 1) := by decide +kernel
theorem dL_law_1342 : decode cL_law 1342 = .ok (.iload 5, 2) := by decide +kernel
theorem dL_law_1344 : decode cL_law 1344 = .ok (.iconst 1, 1) := by decide +kernel
theorem dL_law_1345 : decode cL_law 1345 = .ok (.iadd, 1) := by decide +kernel
theorem dL_law_1346 : decode cL_law 1346 = .ok (.iaload, 1) := by decide +kernel
theorem dL_law_1347 : decode cL_law 1347 = .ok (.aload_n 0, 1) := by decide +kernel
theorem dL_law_1348 : decode cL_law 1348 = .ok (.iload 5, 2) := by decide +kernel
theorem dL_law_1350 : decode cL_law 1350 = .ok (.iconst 2, 1) := by decide +kernel
theorem dL_law_1351 : decode cL_law 1351 = .ok (.iadd, 1) := by decide +kernel
theorem dL_law_1352 : decode cL_law 1352 = .ok (.iaload, 1) := by decide +kernel
theorem dL_law_1353 : decode cL_law 1353 = .ok (.aload_n 0, 1) := by decide +kernel
theorem dL_law_1354 : decode cL_law 1354 = .ok (.iload 5, 2) := by decide +kernel
theorem dL_law_1356 : decode cL_law 1356 = .ok (.iconst 3, 1) := by decide +kernel
theorem dL_law_1357 : decode cL_law 1357 = .ok (.iadd, 1) := by decide +kernel
theorem dL_law_1358 : decode cL_law 1358 = .ok (.iaload, 1) := by decide +kernel
theorem dL_law_1359 : decode cL_law 1359 = .ok (.invokevirtual 180, 3) := by decide +kernel
theorem dL_law_1362 : decode cL_law 1362 = .ok (.istore 7, 2) := by decide +kernel
theorem dL_law_1364 : decode cL_law 1364 = .ok (.aload_n 2, 1) := by decide +kernel
theorem dL_law_1365 : decode cL_law 1365 = .ok (.invokevirtual 124, 3) := by decide +kernel
theorem dL_law_1368 : decode cL_law 1368 = .ok (.iload 6, 2) := by decide +kernel
theorem dL_law_1370 : decode cL_law 1370 = .ok (.if_icmp .eq 5, 3) := by decide +kernel
theorem dL_law_1373 : decode cL_law 1373 = .ok (.iconst 0, 1) := by decide +kernel
theorem dL_law_1374 : decode cL_law 1374 = .ok (.ireturn, 1) := by decide +kernel
theorem dL_law_1375 : decode cL_law 1375 = .ok (.iload 6, 2) := by decide +kernel
theorem dL_law_1377 : decode cL_law 1377 = .ok (.ifCond .ne 15, 3) := by decide +kernel
theorem dL_law_1380 : decode cL_law 1380 = .ok (.aload_n 3, 1) := by decide +kernel
theorem dL_law_1381 : decode cL_law 1381 = .ok (.iconst 0, 1) := by decide +kernel
theorem dL_law_1382 : decode cL_law 1382 = .ok (.laload, 1) := by decide +kernel
theorem dL_law_1383 : decode cL_law 1383 = .ok (.iload 7, 2) := by decide +kernel
theorem dL_law_1385 : decode cL_law 1385 = .ok (.i2l, 1) := by decide +kernel
theorem dL_law_1386 : decode cL_law 1386 = .ok (.lcmp, 1) := by decide +kernel
theorem dL_law_1387 : decode cL_law 1387 = .ok (.ifCond .eq 5, 3) := by decide +kernel
theorem dL_law_1390 : decode cL_law 1390 = .ok (.iconst 0, 1) := by decide +kernel
theorem dL_law_1391 : decode cL_law 1391 = .ok (.ireturn, 1) := by decide +kernel
theorem dL_law_1392 : decode cL_law 1392 = .ok (.goto 998, 3) := by decide +kernel
theorem dL_law_1395 : decode cL_law 1395 = .ok (.aload_n 1, 1) := by decide +kernel
theorem dL_law_1396 : decode cL_law 1396 = .ok (.aload_n 0, 1) := by decide +kernel
theorem dL_law_1397 : decode cL_law 1397 = .ok (.iload 5, 2) := by decide +kernel
theorem dL_law_1399 : decode cL_law 1399 = .ok (.iconst 1, 1) := by decide +kernel
theorem dL_law_1400 : decode cL_law 1400 = .ok (.iadd, 1) := by decide +kernel
theorem dL_law_1401 : decode cL_law 1401 = .ok (.iaload, 1) := by decide +kernel
theorem dL_law_1402 : decode cL_law 1402 = .ok (.aload_n 0, 1) := by decide +kernel
theorem dL_law_1403 : decode cL_law 1403 = .ok (.iload 5, 2) := by decide +kernel
theorem dL_law_1405 : decode cL_law 1405 = .ok (.iconst 2, 1) := by decide +kernel
theorem dL_law_1406 : decode cL_law 1406 = .ok (.iadd, 1) := by decide +kernel
theorem dL_law_1407 : decode cL_law 1407 = .ok (.iaload, 1) := by decide +kernel
theorem dL_law_1408 : decode cL_law 1408 = .ok (.aload_n 0, 1) := by decide +kernel
theorem dL_law_1409 : decode cL_law 1409 = .ok (.iload 5, 2) := by decide +kernel
theorem dL_law_1411 : decode cL_law 1411 = .ok (.iconst 3, 1) := by decide +kernel
theorem dL_law_1412 : decode cL_law 1412 = .ok (.iadd, 1) := by decide +kernel
theorem dL_law_1413 : decode cL_law 1413 = .ok (.iaload, 1) := by decide +kernel
theorem dL_law_1414 : decode cL_law 1414 = .ok (.aload_n 3, 1) := by decide +kernel
theorem dL_law_1415 : decode cL_law 1415 = .ok (.invokestatic 181, 3) := by decide +kernel
theorem dL_law_1418 : decode cL_law 1418 = .ok (.istore 6, 2) := by decide +kernel
theorem dL_law_1420 : decode cL_law 1420 = .ok (.aload_n 2, 1) := by decide +kernel
theorem dL_law_1421 : decode cL_law 1421 = .ok (.aload_n 0, 1) := by decide +kernel
theorem dL_law_1422 : decode cL_law 1422 = .ok (.iload 5, 2) := by decide +kernel
theorem dL_law_1424 : decode cL_law 1424 = .ok (.iconst 1, 1) := by decide +kernel
theorem dL_law_1425 : decode cL_law 1425 = .ok (.iadd, 1) := by decide +kernel
theorem dL_law_1426 : decode cL_law 1426 = .ok (.iaload, 1) := by decide +kernel
theorem dL_law_1427 : decode cL_law 1427 = .ok (.aload_n 0, 1) := by decide +kernel
theorem dL_law_1428 : decode cL_law 1428 = .ok (.iload 5, 2) := by decide +kernel
theorem dL_law_1430 : decode cL_law 1430 = .ok (.iconst 2, 1) := by decide +kernel
theorem dL_law_1431 : decode cL_law 1431 = .ok (.iadd, 1) := by decide +kernel
theorem dL_law_1432 : decode cL_law 1432 = .ok (.iaload, 1) := by decide +kernel
theorem dL_law_1433 : decode cL_law 1433 = .ok (.aload_n 0, 1) := by decide +kernel
theorem dL_law_1434 : decode cL_law 1434 = .ok (.iload 5, 2) := by decide +kernel
theorem dL_law_1436 : decode cL_law 1436 = .ok (.iconst 3, 1) := by decide +kernel
theorem dL_law_1437 : decode cL_law 1437 = .ok (.iadd, 1) := by decide +kernel
theorem dL_law_1438 : decode cL_law 1438 = .ok (.iaload, 1) := by decide +kernel
theorem dL_law_1439 : decode cL_law 1439 = .ok (.invokevirtual 183, 3) := by decide +kernel
theorem dL_law_1442 : decode cL_law 1442 = .ok (.istore 7, 2) := by decide +kernel
theorem dL_law_1444 : decode cL_law 1444 = .ok (.aload_n 2, 1) := by decide +kernel
theorem dL_law_1445 : decode cL_law 1445 = .ok (.invokevirtual 124, 3) := by decide +kernel
theorem dL_law_1448 : decode cL_law 1448 = .ok (.iload 6, 2) := by decide +kernel
theorem dL_law_1450 : decode cL_law 1450 = .ok (.if_icmp .eq 5, 3) := by decide +kernel
theorem dL_law_1453 : decode cL_law 1453 = .ok (.iconst 0, 1) := by decide +kernel
theorem dL_law_1454 : decode cL_law 1454 = .ok (.ireturn, 1) := by decide +kernel
theorem dL_law_1455 : decode cL_law 1455 = .ok (.iload 6, 2) := by decide +kernel
theorem dL_law_1457 : decode cL_law 1457 = .ok (.ifCond .ne 15, 3) := by decide +kernel
theorem dL_law_1460 : decode cL_law 1460 = .ok (.aload_n 3, 1) := by decide +kernel
theorem dL_law_1461 : decode cL_law 1461 = .ok (.iconst 0, 1) := by decide +kernel
theorem dL_law_1462 : decode cL_law 1462 = .ok (.laload, 1) := by decide +kernel
theorem dL_law_1463 : decode cL_law 1463 = .ok (.iload 7, 2) := by decide +kernel
theorem dL_law_1465 : decode cL_law 1465 = .ok (.i2l, 1) := by decide +kernel
theorem dL_law_1466 : decode cL_law 1466 = .ok (.lcmp, 1) := by decide +kernel
theorem dL_law_1467 : decode cL_law 1467 = .ok (.ifCond .eq 5, 3) := by decide +kernel
theorem dL_law_1470 : decode cL_law 1470 = .ok (.iconst 0, 1) := by decide +kernel
theorem dL_law_1471 : decode cL_law 1471 = .ok (.ireturn, 1) := by decide +kernel
theorem dL_law_1472 : decode cL_law 1472 = .ok (.goto 918, 3) := by decide +kernel
theorem dL_law_1475 : decode cL_law 1475 = .ok (.aload_n 1, 1) := by decide +kernel
theorem dL_law_1476 : decode cL_law 1476 = .ok (.aload_n 0, 1) := by decide +kernel
theorem dL_law_1477 : decode cL_law 1477 = .ok (.iload 5, 2) := by decide +kernel
theorem dL_law_1479 : decode cL_law 1479 = .ok (.iconst 1, 1) := by decide +kernel
theorem dL_law_1480 : decode cL_law 1480 = .ok (.iadd, 1) := by decide +kernel
theorem dL_law_1481 : decode cL_law 1481 = .ok (.iaload, 1) := by decide +kernel
theorem dL_law_1482 : decode cL_law 1482 = .ok (.aload_n 0, 1) := by decide +kernel
theorem dL_law_1483 : decode cL_law 1483 = .ok (.iload 5, 2) := by decide +kernel
theorem dL_law_1485 : decode cL_law 1485 = .ok (.iconst 2, 1) := by decide +kernel
theorem dL_law_1486 : decode cL_law 1486 = .ok (.iadd, 1) := by decide +kernel
theorem dL_law_1487 : decode cL_law 1487 = .ok (.iaload, 1) := by decide +kernel
theorem dL_law_1488 : decode cL_law 1488 = .ok (.aload_n 0, 1) := by decide +kernel
theorem dL_law_1489 : decode cL_law 1489 = .ok (.iload 5, 2) := by decide +kernel
theorem dL_law_1491 : decode cL_law 1491 = .ok (.iconst 3, 1) := by decide +kernel
theorem dL_law_1492 : decode cL_law 1492 = .ok (.iadd, 1) := by decide +kernel
theorem dL_law_1493 : decode cL_law 1493 = .ok (.iaload, 1) := by decide +kernel
theorem dL_law_1494 : decode cL_law 1494 = .ok (.i2l, 1) := by decide +kernel
theorem dL_law_1495 : decode cL_law 1495 = .ok (.bipush 32, 2) := by decide +kernel
theorem dL_law_1497 : decode cL_law 1497 = .ok (.lshl, 1) := by decide +kernel
theorem dL_law_1498 : decode cL_law 1498 = .ok (.aload_n 0, 1) := by decide +kernel
theorem dL_law_1499 : decode cL_law 1499 = .ok (.iload 5, 2) := by decide +kernel
theorem dL_law_1501 : decode cL_law 1501 = .ok (.iconst 4, 1) := by decide +kernel
theorem dL_law_1502 : decode cL_law 1502 = .ok (.iadd, 1) := by decide +kernel
theorem dL_law_1503 : decode cL_law 1503 = .ok (.iaload, 1) := by decide +kernel
theorem dL_law_1504 : decode cL_law 1504 = .ok (.i2l, 1) := by decide +kernel
theorem dL_law_1505 : decode cL_law 1505 = .ok (.ldc2_w 184, 3) := by decide +kernel
theorem dL_law_1508 : decode cL_law 1508 = .ok (.land, 1) := by decide +kernel
theorem dL_law_1509 : decode cL_law 1509 = .ok (.lor, 1) := by decide +kernel
theorem dL_law_1510 : decode cL_law 1510 = .ok (.aload_n 3, 1) := by decide +kernel
theorem dL_law_1511 : decode cL_law 1511 = .ok (.invokestatic 186, 3) := by decide +kernel
theorem dL_law_1514 : decode cL_law 1514 = .ok (.istore 6, 2) := by decide +kernel
theorem dL_law_1516 : decode cL_law 1516 = .ok (.aload_n 2, 1) := by decide +kernel
theorem dL_law_1517 : decode cL_law 1517 = .ok (.aload_n 0, 1) := by decide +kernel
theorem dL_law_1518 : decode cL_law 1518 = .ok (.iload 5, 2) := by decide +kernel
theorem dL_law_1520 : decode cL_law 1520 = .ok (.iconst 1, 1) := by decide +kernel
theorem dL_law_1521 : decode cL_law 1521 = .ok (.iadd, 1) := by decide +kernel
theorem dL_law_1522 : decode cL_law 1522 = .ok (.iaload, 1) := by decide +kernel
theorem dL_law_1523 : decode cL_law 1523 = .ok (.aload_n 0, 1) := by decide +kernel
theorem dL_law_1524 : decode cL_law 1524 = .ok (.iload 5, 2) := by decide +kernel
theorem dL_law_1526 : decode cL_law 1526 = .ok (.iconst 2, 1) := by decide +kernel
theorem dL_law_1527 : decode cL_law 1527 = .ok (.iadd, 1) := by decide +kernel
theorem dL_law_1528 : decode cL_law 1528 = .ok (.iaload, 1) := by decide +kernel
theorem dL_law_1529 : decode cL_law 1529 = .ok (.aload_n 0, 1) := by decide +kernel
theorem dL_law_1530 : decode cL_law 1530 = .ok (.iload 5, 2) := by decide +kernel
theorem dL_law_1532 : decode cL_law 1532 = .ok (.iconst 3, 1) := by decide +kernel
theorem dL_law_1533 : decode cL_law 1533 = .ok (.iadd, 1) := by decide +kernel
theorem dL_law_1534 : decode cL_law 1534 = .ok (.iaload, 1) := by decide +kernel
theorem dL_law_1535 : decode cL_law 1535 = .ok (.i2l, 1) := by decide +kernel
theorem dL_law_1536 : decode cL_law 1536 = .ok (.bipush 32, 2) := by decide +kernel
theorem dL_law_1538 : decode cL_law 1538 = .ok (.lshl, 1) := by decide +kernel
theorem dL_law_1539 : decode cL_law 1539 = .ok (.aload_n 0, 1) := by decide +kernel
theorem dL_law_1540 : decode cL_law 1540 = .ok (.iload 5, 2) := by decide +kernel
theorem dL_law_1542 : decode cL_law 1542 = .ok (.iconst 4, 1) := by decide +kernel
theorem dL_law_1543 : decode cL_law 1543 = .ok (.iadd, 1) := by decide +kernel
theorem dL_law_1544 : decode cL_law 1544 = .ok (.iaload, 1) := by decide +kernel
theorem dL_law_1545 : decode cL_law 1545 = .ok (.i2l, 1) := by decide +kernel
theorem dL_law_1546 : decode cL_law 1546 = .ok (.ldc2_w 184, 3) := by decide +kernel
theorem dL_law_1549 : decode cL_law 1549 = .ok (.land, 1) := by decide +kernel
theorem dL_law_1550 : decode cL_law 1550 = .ok (.lor, 1) := by decide +kernel
theorem dL_law_1551 : decode cL_law 1551 = .ok (.invokevirtual 189, 3) := by decide +kernel
theorem dL_law_1554 : decode cL_law 1554 = .ok (.istore 7, 2) := by decide +kernel
theorem dL_law_1556 : decode cL_law 1556 = .ok (.aload_n 2, 1) := by decide +kernel
theorem dL_law_1557 : decode cL_law 1557 = .ok (.invokevirtual 124, 3) := by decide +kernel
theorem dL_law_1560 : decode cL_law 1560 = .ok (.iload 6, 2) := by decide +kernel
theorem dL_law_1562 : decode cL_law 1562 = .ok (.if_icmp .eq 5, 3) := by decide +kernel
theorem dL_law_1565 : decode cL_law 1565 = .ok (.iconst 0, 1) := by decide +kernel
theorem dL_law_1566 : decode cL_law 1566 = .ok (.ireturn, 1) := by decide +kernel
theorem dL_law_1567 : decode cL_law 1567 = .ok (.iload 6, 2) := by decide +kernel
theorem dL_law_1569 : decode cL_law 1569 = .ok (.ifCond .ne 15, 3) := by decide +kernel
theorem dL_law_1572 : decode cL_law 1572 = .ok (.aload_n 3, 1) := by decide +kernel
theorem dL_law_1573 : decode cL_law 1573 = .ok (.iconst 0, 1) := by decide +kernel
theorem dL_law_1574 : decode cL_law 1574 = .ok (.laload, 1) := by decide +kernel
theorem dL_law_1575 : decode cL_law 1575 = .ok (.iload 7, 2) := by decide +kernel
theorem dL_law_1577 : decode cL_law 1577 = .ok (.i2l, 1) := by decide +kernel
theorem dL_law_1578 : decode cL_law 1578 = .ok (.lcmp, 1) := by decide +kernel
theorem dL_law_1579 : decode cL_law 1579 = .ok (.ifCond .eq 5, 3) := by decide +kernel
theorem dL_law_1582 : decode cL_law 1582 = .ok (.iconst 0, 1) := by decide +kernel
theorem dL_law_1583 : decode cL_law 1583 = .ok (.ireturn, 1) := by decide +kernel
theorem dL_law_1584 : decode cL_law 1584 = .ok (.goto 806, 3) := by decide +kernel
theorem dL_law_1587 : decode cL_law 1587 = .ok (.aload_n 1, 1) := by decide +kernel
theorem dL_law_1588 : decode cL_law 1588 = .ok (.aload_n 0, 1) := by decide +kernel
theorem dL_law_1589 : decode cL_law 1589 = .ok (.iload 5, 2) := by decide +kernel
theorem dL_law_1591 : decode cL_law 1591 = .ok (.iconst 1, 1) := by decide +kernel
theorem dL_law_1592 : decode cL_law 1592 = .ok (.iadd, 1) := by decide +kernel
theorem dL_law_1593 : decode cL_law 1593 = .ok (.iaload, 1) := by decide +kernel
theorem dL_law_1594 : decode cL_law 1594 = .ok (.aload_n 0, 1) := by decide +kernel
theorem dL_law_1595 : decode cL_law 1595 = .ok (.iload 5, 2) := by decide +kernel
theorem dL_law_1597 : decode cL_law 1597 = .ok (.iconst 2, 1) := by decide +kernel
theorem dL_law_1598 : decode cL_law 1598 = .ok (.iadd, 1) := by decide +kernel
theorem dL_law_1599 : decode cL_law 1599 = .ok (.iaload, 1) := by decide +kernel
theorem dL_law_1600 : decode cL_law 1600 = .ok (.aload_n 0, 1) := by decide +kernel
theorem dL_law_1601 : decode cL_law 1601 = .ok (.iload 5, 2) := by decide +kernel
theorem dL_law_1603 : decode cL_law 1603 = .ok (.iconst 3, 1) := by decide +kernel
theorem dL_law_1604 : decode cL_law 1604 = .ok (.iadd, 1) := by decide +kernel
theorem dL_law_1605 : decode cL_law 1605 = .ok (.iaload, 1) := by decide +kernel
theorem dL_law_1606 : decode cL_law 1606 = .ok (.i2f, 1) := by decide +kernel
theorem dL_law_1607 : decode cL_law 1607 = .ok (.ldc 190, 2) := by decide +kernel
theorem dL_law_1609 : decode cL_law 1609 = .ok (.fmul, 1) := by decide +kernel
theorem dL_law_1610 : decode cL_law 1610 = .ok (.aload_n 3, 1) := by decide +kernel
theorem dL_law_1611 : decode cL_law 1611 = .ok (.invokestatic 191, 3) := by decide +kernel
theorem dL_law_1614 : decode cL_law 1614 = .ok (.istore 6, 2) := by decide +kernel
theorem dL_law_1616 : decode cL_law 1616 = .ok (.aload_n 2, 1) := by decide +kernel
theorem dL_law_1617 : decode cL_law 1617 = .ok (.aload_n 0, 1) := by decide +kernel
theorem dL_law_1618 : decode cL_law 1618 = .ok (.iload 5, 2) := by decide +kernel
theorem dL_law_1620 : decode cL_law 1620 = .ok (.iconst 1, 1) := by decide +kernel
theorem dL_law_1621 : decode cL_law 1621 = .ok (.iadd, 1) := by decide +kernel
theorem dL_law_1622 : decode cL_law 1622 = .ok (.iaload, 1) := by decide +kernel
theorem dL_law_1623 : decode cL_law 1623 = .ok (.aload_n 0, 1) := by decide +kernel
theorem dL_law_1624 : decode cL_law 1624 = .ok (.iload 5, 2) := by decide +kernel
theorem dL_law_1626 : decode cL_law 1626 = .ok (.iconst 2, 1) := by decide +kernel
theorem dL_law_1627 : decode cL_law 1627 = .ok (.iadd, 1) := by decide +kernel
theorem dL_law_1628 : decode cL_law 1628 = .ok (.iaload, 1) := by decide +kernel
theorem dL_law_1629 : decode cL_law 1629 = .ok (.aload_n 0, 1) := by decide +kernel
theorem dL_law_1630 : decode cL_law 1630 = .ok (.iload 5, 2) := by decide +kernel
theorem dL_law_1632 : decode cL_law 1632 = .ok (.iconst 3, 1) := by decide +kernel
theorem dL_law_1633 : decode cL_law 1633 = .ok (.iadd, 1) := by decide +kernel
theorem dL_law_1634 : decode cL_law 1634 = .ok (.iaload, 1) := by decide +kernel
theorem dL_law_1635 : decode cL_law 1635 = .ok (.i2f, 1) := by decide +kernel
theorem dL_law_1636 : decode cL_law 1636 = .ok (.ldc 190, 2) := by decide +kernel
theorem dL_law_1638 : decode cL_law 1638 = .ok (.fmul, 1) := by decide +kernel
theorem dL_law_1639 : decode cL_law 1639 = .ok (.invokevirtual 194, 3) := by decide +kernel
theorem dL_law_1642 : decode cL_law 1642 = .ok (.istore 7, 2) := by decide +kernel
theorem dL_law_1644 : decode cL_law 1644 = .ok (.aload_n 2, 1) := by decide +kernel
theorem dL_law_1645 : decode cL_law 1645 = .ok (.invokevirtual 124, 3) := by decide +kernel
theorem dL_law_1648 : decode cL_law 1648 = .ok (.iload 6, 2) := by decide +kernel
theorem dL_law_1650 : decode cL_law 1650 = .ok (.if_icmp .eq 5, 3) := by decide +kernel
theorem dL_law_1653 : decode cL_law 1653 = .ok (.iconst 0, 1) := by decide +kernel
theorem dL_law_1654 : decode cL_law 1654 = .ok (.ireturn, 1) := by decide +kernel
theorem dL_law_1655 : decode cL_law 1655 = .ok (.iload 6, 2) := by decide +kernel
theorem dL_law_1657 : decode cL_law 1657 = .ok (.ifCond .ne 15, 3) := by decide +kernel
theorem dL_law_1660 : decode cL_law 1660 = .ok (.aload_n 3, 1) := by decide +kernel
theorem dL_law_1661 : decode cL_law 1661 = .ok (.iconst 0, 1) := by decide +kernel
theorem dL_law_1662 : decode cL_law 1662 = .ok (.laload, 1) := by decide +kernel
theorem dL_law_1663 : decode cL_law 1663 = .ok (.iload 7, 2) := by decide +kernel
theorem dL_law_1665 : decode cL_law 1665 = .ok (.i2l, 1) := by decide +kernel
theorem dL_law_1666 : decode cL_law 1666 = .ok (.lcmp, 1) := by decide +kernel
theorem dL_law_1667 : decode cL_law 1667 = .ok (.ifCond .eq 5, 3) := by decide +kernel
theorem dL_law_1670 : decode cL_law 1670 = .ok (.iconst 0, 1) := by decide +kernel
theorem dL_law_1671 : decode cL_law 1671 = .ok (.ireturn, 1) := by decide +kernel
theorem dL_law_1672 : decode cL_law 1672 = .ok (.goto 718, 3) := by decide +kernel
theorem dL_law_1675 : decode cL_law 1675 = .ok (.aload_n 1, 1) := by decide +kernel
theorem dL_law_1676 : decode cL_law 1676 = .ok (.aload_n 0, 1) := by decide +kernel
theorem dL_law_1677 : decode cL_law 1677 = .ok (.iload 5, 2) := by decide +kernel
theorem dL_law_1679 : decode cL_law 1679 = .ok (.iconst 1, 1) := by decide +kernel
theorem dL_law_1680 : decode cL_law 1680 = .ok (.iadd, 1) := by decide +kernel
theorem dL_law_1681 : decode cL_law 1681 = .ok (.iaload, 1) := by decide +kernel
theorem dL_law_1682 : decode cL_law 1682 = .ok (.aload_n 0, 1) := by decide +kernel
theorem dL_law_1683 : decode cL_law 1683 = .ok (.iload 5, 2) := by decide +kernel
theorem dL_law_1685 : decode cL_law 1685 = .ok (.iconst 2, 1) := by decide +kernel
theorem dL_law_1686 : decode cL_law 1686 = .ok (.iadd, 1) := by decide +kernel
theorem dL_law_1687 : decode cL_law 1687 = .ok (.iaload, 1) := by decide +kernel
theorem dL_law_1688 : decode cL_law 1688 = .ok (.aload_n 0, 1) := by decide +kernel
theorem dL_law_1689 : decode cL_law 1689 = .ok (.iload 5, 2) := by decide +kernel
theorem dL_law_1691 : decode cL_law 1691 = .ok (.iconst 3, 1) := by decide +kernel
theorem dL_law_1692 : decode cL_law 1692 = .ok (.iadd, 1) := by decide +kernel
theorem dL_law_1693 : decode cL_law 1693 = .ok (.iaload, 1) := by decide +kernel
theorem dL_law_1694 : decode cL_law 1694 = .ok (.i2d, 1) := by decide +kernel
theorem dL_law_1695 : decode cL_law 1695 = .ok (.ldc2_w 195, 3) := by decide +kernel
theorem dL_law_1698 : decode cL_law 1698 = .ok (.dmul, 1) := by decide +kernel
theorem dL_law_1699 : decode cL_law 1699 = .ok (.aload_n 3, 1) := by decide +kernel
theorem dL_law_1700 : decode cL_law 1700 = .ok (.invokestatic 197, 3) := by decide +kernel
theorem dL_law_1703 : decode cL_law 1703 = .ok (.istore 6, 2) := by decide +kernel
theorem dL_law_1705 : decode cL_law 1705 = .ok (.aload_n 2, 1) := by decide +kernel
theorem dL_law_1706 : decode cL_law 1706 = .ok (.aload_n 0, 1) := by decide +kernel
theorem dL_law_1707 : decode cL_law 1707 = .ok (.iload 5, 2) := by decide +kernel
theorem dL_law_1709 : decode cL_law 1709 = .ok (.iconst 1, 1) := by decide +kernel
theorem dL_law_1710 : decode cL_law 1710 = .ok (.iadd, 1) := by decide +kernel
theorem dL_law_1711 : decode cL_law 1711 = .ok (.iaload, 1) := by decide +kernel
theorem dL_law_1712 : decode cL_law 1712 = .ok (.aload_n 0, 1) := by decide +kernel
theorem dL_law_1713 : decode cL_law 1713 = .ok (.iload 5, 2) := by decide +kernel
theorem dL_law_1715 : decode cL_law 1715 = .ok (.iconst 2, 1) := by decide +kernel
theorem dL_law_1716 : decode cL_law 1716 = .ok (.iadd, 1) := by decide +kernel
theorem dL_law_1717 : decode cL_law 1717 = .ok (.iaload, 1) := by decide +kernel
theorem dL_law_1718 : decode cL_law 1718 = .ok (.aload_n 0, 1) := by decide +kernel
theorem dL_law_1719 : decode cL_law 1719 = .ok (.iload 5, 2) := by decide +kernel
theorem dL_law_1721 : decode cL_law 1721 = .ok (.iconst 3, 1) := by decide +kernel
theorem dL_law_1722 : decode cL_law 1722 = .ok (.iadd, 1) := by decide +kernel
theorem dL_law_1723 : decode cL_law 1723 = .ok (.iaload, 1) := by decide +kernel
theorem dL_law_1724 : decode cL_law 1724 = .ok (.i2d, 1) := by decide +kernel
theorem dL_law_1725 : decode cL_law 1725 = .ok (.ldc2_w 195, 3) := by decide +kernel
theorem dL_law_1728 : decode cL_law 1728 = .ok (.dmul, 1) := by decide +kernel
theorem dL_law_1729 : decode cL_law 1729 = .ok (.invokevirtual 200, 3) := by decide +kernel
theorem dL_law_1732 : decode cL_law 1732 = .ok (.istore 7, 2) := by decide +kernel
theorem dL_law_1734 : decode cL_law 1734 = .ok (.aload_n 2, 1) := by decide +kernel
theorem dL_law_1735 : decode cL_law 1735 = .ok (.invokevirtual 124, 3) := by decide +kernel
theorem dL_law_1738 : decode cL_law 1738 = .ok (.iload 6, 2) := by decide +kernel
theorem dL_law_1740 : decode cL_law 1740 = .ok (.if_icmp .eq 5, 3) := by decide +kernel
theorem dL_law_1743 : decode cL_law 1743 = .ok (.iconst 0, 1) := by decide +kernel
theorem dL_law_1744 : decode cL_law 1744 = .ok (.ireturn, 1) := by decide +kernel
theorem dL_law_1745 : decode cL_law 1745 = .ok (.iload 6, 2) := by decide +kernel
theorem dL_law_1747 : decode cL_law 1747 = .ok (.ifCond .ne 15, 3) := by decide +kernel
theorem dL_law_1750 : decode cL_law 1750 = .ok (.aload_n 3, 1) := by decide +kernel
theorem dL_law_1751 : decode cL_law 1751 = .ok (.iconst 0, 1) := by decide +kernel
theorem dL_law_1752 : decode cL_law 1752 = .ok (.laload, 1) := by decide +kernel
theorem dL_law_1753 : decode cL_law 1753 = .ok (.iload 7, 2) := by decide +kernel
theorem dL_law_1755 : decode cL_law 1755 = .ok (.i2l, 1) := by decide +kernel
theorem dL_law_1756 : decode cL_law 1756 = .ok (.lcmp, 1) := by decide +kernel
theorem dL_law_1757 : decode cL_law 1757 = .ok (.ifCond .eq 5, 3) := by decide +kernel
theorem dL_law_1760 : decode cL_law 1760 = .ok (.iconst 0, 1) := by decide +kernel
theorem dL_law_1761 : decode cL_law 1761 = .ok (.ireturn, 1) := by decide +kernel
theorem dL_law_1762 : decode cL_law 1762 = .ok (.goto 628, 3) := by decide +kernel
theorem dL_law_1765 : decode cL_law 1765 = .ok (.aload_n 1, 1) := by decide +kernel
theorem dL_law_1766 : decode cL_law 1766 = .ok (.aload_n 0, 1) := by decide +kernel
theorem dL_law_1767 : decode cL_law 1767 = .ok (.iload 5, 2) := by decide +kernel
theorem dL_law_1769 : decode cL_law 1769 = .ok (.iconst 1, 1) := by decide +kernel
theorem dL_law_1770 : decode cL_law 1770 = .ok (.iadd, 1) := by decide +kernel
theorem dL_law_1771 : decode cL_law 1771 = .ok (.iaload, 1) := by decide +kernel
theorem dL_law_1772 : decode cL_law 1772 = .ok (.aload_n 0, 1) := by decide +kernel
theorem dL_law_1773 : decode cL_law 1773 = .ok (.iload 5, 2) := by decide +kernel
theorem dL_law_1775 : decode cL_law 1775 = .ok (.iconst 2, 1) := by decide +kernel
theorem dL_law_1776 : decode cL_law 1776 = .ok (.iadd, 1) := by decide +kernel
theorem dL_law_1777 : decode cL_law 1777 = .ok (.iaload, 1) := by decide +kernel
theorem dL_law_1778 : decode cL_law 1778 = .ok (.aload_n 0, 1) := by decide +kernel
theorem dL_law_1779 : decode cL_law 1779 = .ok (.iload 5, 2) := by decide +kernel
theorem dL_law_1781 : decode cL_law 1781 = .ok (.iconst 3, 1) := by decide +kernel
theorem dL_law_1782 : decode cL_law 1782 = .ok (.iadd, 1) := by decide +kernel
theorem dL_law_1783 : decode cL_law 1783 = .ok (.iaload, 1) := by decide +kernel
theorem dL_law_1784 : decode cL_law 1784 = .ok (.aload_n 0, 1) := by decide +kernel
theorem dL_law_1785 : decode cL_law 1785 = .ok (.iload 5, 2) := by decide +kernel
theorem dL_law_1787 : decode cL_law 1787 = .ok (.iconst 4, 1) := by decide +kernel
theorem dL_law_1788 : decode cL_law 1788 = .ok (.iadd, 1) := by decide +kernel
theorem dL_law_1789 : decode cL_law 1789 = .ok (.iaload, 1) := by decide +kernel
theorem dL_law_1790 : decode cL_law 1790 = .ok (.aload_n 3, 1) := by decide +kernel
theorem dL_law_1791 : decode cL_law 1791 = .ok (.invokestatic 201, 3) := by decide +kernel
theorem dL_law_1794 : decode cL_law 1794 = .ok (.istore 6, 2) := by decide +kernel
theorem dL_law_1796 : decode cL_law 1796 = .ok (.aload_n 2, 1) := by decide +kernel
theorem dL_law_1797 : decode cL_law 1797 = .ok (.aload_n 0, 1) := by decide +kernel
theorem dL_law_1798 : decode cL_law 1798 = .ok (.iload 5, 2) := by decide +kernel
theorem dL_law_1800 : decode cL_law 1800 = .ok (.iconst 1, 1) := by decide +kernel
theorem dL_law_1801 : decode cL_law 1801 = .ok (.iadd, 1) := by decide +kernel
theorem dL_law_1802 : decode cL_law 1802 = .ok (.iaload, 1) := by decide +kernel
theorem dL_law_1803 : decode cL_law 1803 = .ok (.aload_n 0, 1) := by decide +kernel
theorem dL_law_1804 : decode cL_law 1804 = .ok (.iload 5, 2) := by decide +kernel
theorem dL_law_1806 : decode cL_law 1806 = .ok (.iconst 2, 1) := by decide +kernel
theorem dL_law_1807 : decode cL_law 1807 = .ok (.iadd, 1) := by decide +kernel
theorem dL_law_1808 : decode cL_law 1808 = .ok (.iaload, 1) := by decide +kernel
theorem dL_law_1809 : decode cL_law 1809 = .ok (.aload_n 0, 1) := by decide +kernel
theorem dL_law_1810 : decode cL_law 1810 = .ok (.iload 5, 2) := by decide +kernel
theorem dL_law_1812 : decode cL_law 1812 = .ok (.iconst 3, 1) := by decide +kernel
theorem dL_law_1813 : decode cL_law 1813 = .ok (.iadd, 1) := by decide +kernel
theorem dL_law_1814 : decode cL_law 1814 = .ok (.iaload, 1) := by decide +kernel
theorem dL_law_1815 : decode cL_law 1815 = .ok (.aload_n 0, 1) := by decide +kernel
theorem dL_law_1816 : decode cL_law 1816 = .ok (.iload 5, 2) := by decide +kernel
theorem dL_law_1818 : decode cL_law 1818 = .ok (.iconst 4, 1) := by decide +kernel
theorem dL_law_1819 : decode cL_law 1819 = .ok (.iadd, 1) := by decide +kernel
theorem dL_law_1820 : decode cL_law 1820 = .ok (.iaload, 1) := by decide +kernel
theorem dL_law_1821 : decode cL_law 1821 = .ok (.invokevirtual 204, 3) := by decide +kernel
theorem dL_law_1824 : decode cL_law 1824 = .ok (.istore 7, 2) := by decide +kernel
theorem dL_law_1826 : decode cL_law 1826 = .ok (.aload_n 2, 1) := by decide +kernel
theorem dL_law_1827 : decode cL_law 1827 = .ok (.invokevirtual 124, 3) := by decide +kernel
theorem dL_law_1830 : decode cL_law 1830 = .ok (.iload 6, 2) := by decide +kernel
theorem dL_law_1832 : decode cL_law 1832 = .ok (.if_icmp .eq 5, 3) := by decide +kernel
theorem dL_law_1835 : decode cL_law 1835 = .ok (.iconst 0, 1) := by decide +kernel
theorem dL_law_1836 : decode cL_law 1836 = .ok (.ireturn, 1) := by decide +kernel
theorem dL_law_1837 : decode cL_law 1837 = .ok (.iload 6, 2) := by decide +kernel
theorem dL_law_1839 : decode cL_law 1839 = .ok (.ifCond .ne 15, 3) := by decide +kernel
theorem dL_law_1842 : decode cL_law 1842 = .ok (.aload_n 3, 1) := by decide +kernel
theorem dL_law_1843 : decode cL_law 1843 = .ok (.iconst 0, 1) := by decide +kernel
theorem dL_law_1844 : decode cL_law 1844 = .ok (.laload, 1) := by decide +kernel
theorem dL_law_1845 : decode cL_law 1845 = .ok (.iload 7, 2) := by decide +kernel
theorem dL_law_1847 : decode cL_law 1847 = .ok (.i2l, 1) := by decide +kernel
theorem dL_law_1848 : decode cL_law 1848 = .ok (.lcmp, 1) := by decide +kernel
theorem dL_law_1849 : decode cL_law 1849 = .ok (.ifCond .eq 5, 3) := by decide +kernel
theorem dL_law_1852 : decode cL_law 1852 = .ok (.iconst 0, 1) := by decide +kernel
theorem dL_law_1853 : decode cL_law 1853 = .ok (.ireturn, 1) := by decide +kernel
theorem dL_law_1854 : decode cL_law 1854 = .ok (.goto 536, 3) := by decide +kernel
theorem dL_law_1857 : decode cL_law 1857 = .ok (.aload_n 1, 1) := by decide +kernel
theorem dL_law_1858 : decode cL_law 1858 = .ok (.aload_n 0, 1) := by decide +kernel
theorem dL_law_1859 : decode cL_law 1859 = .ok (.iload 5, 2) := by decide +kernel
theorem dL_law_1861 : decode cL_law 1861 = .ok (.iconst 1, 1) := by decide +kernel
theorem dL_law_1862 : decode cL_law 1862 = .ok (.iadd, 1) := by decide +kernel
theorem dL_law_1863 : decode cL_law 1863 = .ok (.iaload, 1) := by decide +kernel
theorem dL_law_1864 : decode cL_law 1864 = .ok (.aload_n 0, 1) := by decide +kernel
theorem dL_law_1865 : decode cL_law 1865 = .ok (.iload 5, 2) := by decide +kernel
theorem dL_law_1867 : decode cL_law 1867 = .ok (.iconst 2, 1) := by decide +kernel
theorem dL_law_1868 : decode cL_law 1868 = .ok (.iadd, 1) := by decide +kernel
theorem dL_law_1869 : decode cL_law 1869 = .ok (.iaload, 1) := by decide +kernel
theorem dL_law_1870 : decode cL_law 1870 = .ok (.aload_n 0, 1) := by decide +kernel
theorem dL_law_1871 : decode cL_law 1871 = .ok (.iload 5, 2) := by decide +kernel
theorem dL_law_1873 : decode cL_law 1873 = .ok (.iconst 3, 1) := by decide +kernel
theorem dL_law_1874 : decode cL_law 1874 = .ok (.iadd, 1) := by decide +kernel
theorem dL_law_1875 : decode cL_law 1875 = .ok (.iaload, 1) := by decide +kernel
theorem dL_law_1876 : decode cL_law 1876 = .ok (.aload_n 0, 1) := by decide +kernel
theorem dL_law_1877 : decode cL_law 1877 = .ok (.iload 5, 2) := by decide +kernel
theorem dL_law_1879 : decode cL_law 1879 = .ok (.iconst 4, 1) := by decide +kernel
theorem dL_law_1880 : decode cL_law 1880 = .ok (.iadd, 1) := by decide +kernel
theorem dL_law_1881 : decode cL_law 1881 = .ok (.iaload, 1) := by decide +kernel
theorem dL_law_1882 : decode cL_law 1882 = .ok (.aload_n 0, 1) := by decide +kernel
theorem dL_law_1883 : decode cL_law 1883 = .ok (.iload 5, 2) := by decide +kernel
theorem dL_law_1885 : decode cL_law 1885 = .ok (.iconst 5, 1) := by decide +kernel
theorem dL_law_1886 : decode cL_law 1886 = .ok (.iadd, 1) := by decide +kernel
theorem dL_law_1887 : decode cL_law 1887 = .ok (.iaload, 1) := by decide +kernel
theorem dL_law_1888 : decode cL_law 1888 = .ok (.aload_n 3, 1) := by decide +kernel
theorem dL_law_1889 : decode cL_law 1889 = .ok (.invokestatic 205, 3) := by decide +kernel
theorem dL_law_1892 : decode cL_law 1892 = .ok (.istore 6, 2) := by decide +kernel
theorem dL_law_1894 : decode cL_law 1894 = .ok (.aload_n 2, 1) := by decide +kernel
theorem dL_law_1895 : decode cL_law 1895 = .ok (.aload_n 0, 1) := by decide +kernel
theorem dL_law_1896 : decode cL_law 1896 = .ok (.iload 5, 2) := by decide +kernel
theorem dL_law_1898 : decode cL_law 1898 = .ok (.iconst 1, 1) := by decide +kernel
theorem dL_law_1899 : decode cL_law 1899 = .ok (.iadd, 1) := by decide +kernel
theorem dL_law_1900 : decode cL_law 1900 = .ok (.iaload, 1) := by decide +kernel
theorem dL_law_1901 : decode cL_law 1901 = .ok (.aload_n 0, 1) := by decide +kernel
theorem dL_law_1902 : decode cL_law 1902 = .ok (.iload 5, 2) := by decide +kernel
theorem dL_law_1904 : decode cL_law 1904 = .ok (.iconst 2, 1) := by decide +kernel
theorem dL_law_1905 : decode cL_law 1905 = .ok (.iadd, 1) := by decide +kernel
theorem dL_law_1906 : decode cL_law 1906 = .ok (.iaload, 1) := by decide +kernel
theorem dL_law_1907 : decode cL_law 1907 = .ok (.aload_n 0, 1) := by decide +kernel
theorem dL_law_1908 : decode cL_law 1908 = .ok (.iload 5, 2) := by decide +kernel
theorem dL_law_1910 : decode cL_law 1910 = .ok (.iconst 3, 1) := by decide +kernel
theorem dL_law_1911 : decode cL_law 1911 = .ok (.iadd, 1) := by decide +kernel
theorem dL_law_1912 : decode cL_law 1912 = .ok (.iaload, 1) := by decide +kernel
theorem dL_law_1913 : decode cL_law 1913 = .ok (.aload_n 0, 1) := by decide +kernel
theorem dL_law_1914 : decode cL_law 1914 = .ok (.iload 5, 2) := by decide +kernel
theorem dL_law_1916 : decode cL_law 1916 = .ok (.iconst 4, 1) := by decide +kernel
theorem dL_law_1917 : decode cL_law 1917 = .ok (.iadd, 1) := by decide +kernel
theorem dL_law_1918 : decode cL_law 1918 = .ok (.iaload, 1) := by decide +kernel
theorem dL_law_1919 : decode cL_law 1919 = .ok (.aload_n 0, 1) := by decide +kernel
theorem dL_law_1920 : decode cL_law 1920 = .ok (.iload 5, 2) := by decide +kernel
theorem dL_law_1922 : decode cL_law 1922 = .ok (.iconst 5, 1) := by decide +kernel
theorem dL_law_1923 : decode cL_law 1923 = .ok (.iadd, 1) := by decide +kernel
theorem dL_law_1924 : decode cL_law 1924 = .ok (.iaload, 1) := by decide +kernel
theorem dL_law_1925 : decode cL_law 1925 = .ok (.invokevirtual 208, 3) := by decide +kernel
theorem dL_law_1928 : decode cL_law 1928 = .ok (.istore 7, 2) := by decide +kernel
theorem dL_law_1930 : decode cL_law 1930 = .ok (.aload_n 2, 1) := by decide +kernel
theorem dL_law_1931 : decode cL_law 1931 = .ok (.invokevirtual 124, 3) := by decide +kernel
theorem dL_law_1934 : decode cL_law 1934 = .ok (.iload 6, 2) := by decide +kernel
theorem dL_law_1936 : decode cL_law 1936 = .ok (.if_icmp .eq 5, 3) := by decide +kernel
theorem dL_law_1939 : decode cL_law 1939 = .ok (.iconst 0, 1) := by decide +kernel
theorem dL_law_1940 : decode cL_law 1940 = .ok (.ireturn, 1) := by decide +kernel
theorem dL_law_1941 : decode cL_law 1941 = .ok (.iload 6, 2) := by decide +kernel
theorem dL_law_1943 : decode cL_law 1943 = .ok (.ifCond .ne 15, 3) := by decide +kernel
theorem dL_law_1946 : decode cL_law 1946 = .ok (.aload_n 3, 1) := by decide +kernel
theorem dL_law_1947 : decode cL_law 1947 = .ok (.iconst 0, 1) := by decide +kernel
theorem dL_law_1948 : decode cL_law 1948 = .ok (.laload, 1) := by decide +kernel
theorem dL_law_1949 : decode cL_law 1949 = .ok (.iload 7, 2) := by decide +kernel
theorem dL_law_1951 : decode cL_law 1951 = .ok (.i2l, 1) := by decide +kernel
theorem dL_law_1952 : decode cL_law 1952 = .ok (.lcmp, 1) := by decide +kernel
theorem dL_law_1953 : decode cL_law 1953 = .ok (.ifCond .eq 5, 3) := by decide +kernel
theorem dL_law_1956 : decode cL_law 1956 = .ok (.iconst 0, 1) := by decide +kernel
theorem dL_law_1957 : decode cL_law 1957 = .ok (.ireturn, 1) := by decide +kernel
theorem dL_law_1958 : decode cL_law 1958 = .ok (.goto 432, 3) := by decide +kernel
theorem dL_law_1961 : decode cL_law 1961 = .ok (.aload_n 1, 1) := by decide +kernel
theorem dL_law_1962 : decode cL_law 1962 = .ok (.aload_n 0, 1) := by decide +kernel
theorem dL_law_1963 : decode cL_law 1963 = .ok (.iload 5, 2) := by decide +kernel
theorem dL_law_1965 : decode cL_law 1965 = .ok (.iconst 1, 1) := by decide +kernel
theorem dL_law_1966 : decode cL_law 1966 = .ok (.iadd, 1) := by decide +kernel
theorem dL_law_1967 : decode cL_law 1967 = .ok (.iaload, 1) := by decide +kernel
theorem dL_law_1968 : decode cL_law 1968 = .ok (.aload 4, 2) := by decide +kernel
theorem dL_law_1970 : decode cL_law 1970 = .ok (.invokestatic 209, 3) := by decide +kernel
theorem dL_law_1973 : decode cL_law 1973 = .ok (.istore 6, 2) := by decide +kernel
theorem dL_law_1975 : decode cL_law 1975 = .ok (.aload_n 2, 1) := by decide +kernel
theorem dL_law_1976 : decode cL_law 1976 = .ok (.aload_n 0, 1) := by decide +kernel
theorem dL_law_1977 : decode cL_law 1977 = .ok (.iload 5, 2) := by decide +kernel
theorem dL_law_1979 : decode cL_law 1979 = .ok (.iconst 1, 1) := by decide +kernel
theorem dL_law_1980 : decode cL_law 1980 = .ok (.iadd, 1) := by decide +kernel
theorem dL_law_1981 : decode cL_law 1981 = .ok (.iaload, 1) := by decide +kernel
theorem dL_law_1982 : decode cL_law 1982 = .ok (.invokevirtual 212, 3) := by decide +kernel
theorem dL_law_1985 : decode cL_law 1985 = .ok (.dstore 7, 2) := by decide +kernel
theorem dL_law_1987 : decode cL_law 1987 = .ok (.aload_n 2, 1) := by decide +kernel
theorem dL_law_1988 : decode cL_law 1988 = .ok (.invokevirtual 124, 3) := by decide +kernel
theorem dL_law_1991 : decode cL_law 1991 = .ok (.iload 6, 2) := by decide +kernel
theorem dL_law_1993 : decode cL_law 1993 = .ok (.if_icmp .eq 5, 3) := by decide +kernel
theorem dL_law_1996 : decode cL_law 1996 = .ok (.iconst 0, 1) := by decide +kernel
theorem dL_law_1997 : decode cL_law 1997 = .ok (.ireturn, 1) := by decide +kernel
theorem dL_law_1998 : decode cL_law 1998 = .ok (.iload 6, 2) := by decide +kernel
theorem dL_law_2000 : decode cL_law 2000 = .ok (.ifCond .ne 35, 3) := by decide +kernel
theorem dL_law_2003 : decode cL_law 2003 = .ok (.aload 4, 2) := by decide +kernel
theorem dL_law_2005 : decode cL_law 2005 = .ok (.iconst 0, 1) := by decide +kernel
theorem dL_law_2006 : decode cL_law 2006 = .ok (.daload, 1) := by decide +kernel
theorem dL_law_2007 : decode cL_law 2007 = .ok (.dload 7, 2) := by decide +kernel
theorem dL_law_2009 : decode cL_law 2009 = .ok (.dcmp .l, 1) := by decide +kernel
theorem dL_law_2010 : decode cL_law 2010 = .ok (.ifCond .eq 25, 3) := by decide +kernel
theorem dL_law_2013 : decode cL_law 2013 = .ok (.aload 4, 2) := by decide +kernel
theorem dL_law_2015 : decode cL_law 2015 = .ok (.iconst 0, 1) := by decide +kernel
theorem dL_law_2016 : decode cL_law 2016 = .ok (.daload, 1) := by decide +kernel
theorem dL_law_2017 : decode cL_law 2017 = .ok (.aload 4, 2) := by decide +kernel
theorem dL_law_2019 : decode cL_law 2019 = .ok (.iconst 0, 1) := by decide +kernel
theorem dL_law_2020 : decode cL_law 2020 = .ok (.daload, 1) := by decide +kernel
theorem dL_law_2021 : decode cL_law 2021 = .ok (.dcmp .l, 1) := by decide +kernel
theorem dL_law_2022 : decode cL_law 2022 = .ok (.ifCond .eq 11, 3) := by decide +kernel
theorem dL_law_2025 : decode cL_law 2025 = .ok (.dload 7, 2) := by decide +kernel
theorem dL_law_2027 : decode cL_law 2027 = .ok (.dload 7, 2) := by decide +kernel
theorem dL_law_2029 : decode cL_law 2029 = .ok (.dcmp .l, 1) := by decide +kernel
theorem dL_law_2030 : decode cL_law 2030 = .ok (.ifCond .ne 5, 3) := by decide +kernel
theorem dL_law_2033 : decode cL_law 2033 = .ok (.iconst 0, 1) := by decide +kernel
theorem dL_law_2034 : decode cL_law 2034 = .ok (.ireturn, 1) := by decide +kernel
theorem dL_law_2035 : decode cL_law 2035 = .ok (.goto 355, 3) := by decide +kernel
theorem dL_law_2038 : decode cL_law 2038 = .ok (.aload_n 1, 1) := by decide +kernel
theorem dL_law_2039 : decode cL_law 2039 = .ok (.aload_n 0, 1) := by decide +kernel
theorem dL_law_2040 : decode cL_law 2040 = .ok (.iload 5, 2) := by decide +kernel
theorem dL_law_2042 : decode cL_law 2042 = .ok (.iconst 1, 1) := by decide +kernel
theorem dL_law_2043 : decode cL_law 2043 = .ok (.iadd, 1) := by decide +kernel
theorem dL_law_2044 : decode cL_law 2044 = .ok (.iaload, 1) := by decide +kernel
theorem dL_law_2045 : decode cL_law 2045 = .ok (.aload_n 0, 1) := by decide +kernel
theorem dL_law_2046 : decode cL_law 2046 = .ok (.iload 5, 2) := by decide +kernel
theorem dL_law_2048 : decode cL_law 2048 = .ok (.iconst 2, 1) := by decide +kernel
theorem dL_law_2049 : decode cL_law 2049 = .ok (.iadd, 1) := by decide +kernel
theorem dL_law_2050 : decode cL_law 2050 = .ok (.iaload, 1) := by decide +kernel
theorem dL_law_2051 : decode cL_law 2051 = .ok (.aload_n 3, 1) := by decide +kernel
theorem dL_law_2052 : decode cL_law 2052 = .ok (.invokestatic 213, 3) := by decide +kernel
theorem dL_law_2055 : decode cL_law 2055 = .ok (.istore 6, 2) := by decide +kernel
theorem dL_law_2057 : decode cL_law 2057 = .ok (.aload_n 2, 1) := by decide +kernel
theorem dL_law_2058 : decode cL_law 2058 = .ok (.aload_n 0, 1) := by decide +kernel
theorem dL_law_2059 : decode cL_law 2059 = .ok (.iload 5, 2) := by decide +kernel
theorem dL_law_2061 : decode cL_law 2061 = .ok (.iconst 1, 1) := by decide +kernel
theorem dL_law_2062 : decode cL_law 2062 = .ok (.iadd, 1) := by decide +kernel
theorem dL_law_2063 : decode cL_law 2063 = .ok (.iaload, 1) := by decide +kernel
theorem dL_law_2064 : decode cL_law 2064 = .ok (.aload_n 0, 1) := by decide +kernel
theorem dL_law_2065 : decode cL_law 2065 = .ok (.iload 5, 2) := by decide +kernel
theorem dL_law_2067 : decode cL_law 2067 = .ok (.iconst 2, 1) := by decide +kernel
theorem dL_law_2068 : decode cL_law 2068 = .ok (.iadd, 1) := by decide +kernel
theorem dL_law_2069 : decode cL_law 2069 = .ok (.iaload, 1) := by decide +kernel
theorem dL_law_2070 : decode cL_law 2070 = .ok (.invokevirtual 215, 3) := by decide +kernel
theorem dL_law_2073 : decode cL_law 2073 = .ok (.istore 7, 2) := by decide +kernel
theorem dL_law_2075 : decode cL_law 2075 = .ok (.aload_n 2, 1) := by decide +kernel
theorem dL_law_2076 : decode cL_law 2076 = .ok (.invokevirtual 124, 3) := by decide +kernel
theorem dL_law_2079 : decode cL_law 2079 = .ok (.iload 6, 2) := by decide +kernel
theorem dL_law_2081 : decode cL_law 2081 = .ok (.if_icmp .eq 5, 3) := by decide +kernel
theorem dL_law_2084 : decode cL_law 2084 = .ok (.iconst 0, 1) := by decide +kernel
theorem dL_law_2085 : decode cL_law 2085 = .ok (.ireturn, 1) := by decide +kernel
theorem dL_law_2086 : decode cL_law 2086 = .ok (.iload 6, 2) := by decide +kernel
theorem dL_law_2088 : decode cL_law 2088 = .ok (.ifCond .ne 15, 3) := by decide +kernel
theorem dL_law_2091 : decode cL_law 2091 = .ok (.aload_n 3, 1) := by decide +kernel
theorem dL_law_2092 : decode cL_law 2092 = .ok (.iconst 0, 1) := by decide +kernel
theorem dL_law_2093 : decode cL_law 2093 = .ok (.laload, 1) := by decide +kernel
theorem dL_law_2094 : decode cL_law 2094 = .ok (.iload 7, 2) := by decide +kernel
theorem dL_law_2096 : decode cL_law 2096 = .ok (.i2l, 1) := by decide +kernel
theorem dL_law_2097 : decode cL_law 2097 = .ok (.lcmp, 1) := by decide +kernel
theorem dL_law_2098 : decode cL_law 2098 = .ok (.ifCond .eq 5, 3) := by decide +kernel
theorem dL_law_2101 : decode cL_law 2101 = .ok (.iconst 0, 1) := by decide +kernel
theorem dL_law_2102 : decode cL_law 2102 = .ok (.ireturn, 1) := by decide +kernel
theorem dL_law_2103 : decode cL_law 2103 = .ok (.goto 287, 3) := by decide +kernel
theorem dL_law_2106 : decode cL_law 2106 = .ok (.aload_n 1, 1) := by decide +kernel
theorem dL_law_2107 : decode cL_law 2107 = .ok (.invokevirtual 216, 3) := by decide +kernel
theorem dL_law_2110 : decode cL_law 2110 = .ok (.aload_n 2, 1) := by decide +kernel
theorem dL_law_2111 : decode cL_law 2111 = .ok (.invokevirtual 219, 3) := by decide +kernel
theorem dL_law_2114 : decode cL_law 2114 = .ok (.if_icmp .eq 276, 3) := by decide +kernel
theorem dL_law_2117 : decode cL_law 2117 = .ok (.iconst 0, 1) := by decide +kernel
theorem dL_law_2118 : decode cL_law 2118 = .ok (.ireturn, 1) := by decide +kernel
theorem dL_law_2119 : decode cL_law 2119 = .ok (.aload_n 1, 1) := by decide +kernel
theorem dL_law_2120 : decode cL_law 2120 = .ok (.aload_n 0, 1) := by decide +kernel
theorem dL_law_2121 : decode cL_law 2121 = .ok (.iload 5, 2) := by decide +kernel
theorem dL_law_2123 : decode cL_law 2123 = .ok (.iconst 1, 1) := by decide +kernel
theorem dL_law_2124 : decode cL_law 2124 = .ok (.iadd, 1) := by decide +kernel
theorem dL_law_2125 : decode cL_law 2125 = .ok (.iaload, 1) := by decide +kernel
theorem dL_law_2126 : decode cL_law 2126 = .ok (.aload_n 3, 1) := by decide +kernel
theorem dL_law_2127 : decode cL_law 2127 = .ok (.invokestatic 220, 3) := by decide +kernel
theorem dL_law_2130 : decode cL_law 2130 = .ok (.istore 6, 2) := by decide +kernel
theorem dL_law_2132 : decode cL_law 2132 = .ok (.aload_n 2, 1) := by decide +kernel
theorem dL_law_2133 : decode cL_law 2133 = .ok (.aload_n 0, 1) := by decide +kernel
theorem dL_law_2134 : decode cL_law 2134 = .ok (.iload 5, 2) := by decide +kernel
theorem dL_law_2136 : decode cL_law 2136 = .ok (.iconst 1, 1) := by decide +kernel
theorem dL_law_2137 : decode cL_law 2137 = .ok (.iadd, 1) := by decide +kernel
theorem dL_law_2138 : decode cL_law 2138 = .ok (.iaload, 1) := by decide +kernel
theorem dL_law_2139 : decode cL_law 2139 = .ok (.invokevirtual 222, 3) := by decide +kernel
theorem dL_law_2142 : decode cL_law 2142 = .ok (.istore 7, 2) := by decide +kernel
theorem dL_law_2144 : decode cL_law 2144 = .ok (.aload_n 2, 1) := by decide +kernel
theorem dL_law_2145 : decode cL_law 2145 = .ok (.invokevirtual 124, 3) := by decide +kernel
theorem dL_law_2148 : decode cL_law 2148 = .ok (.iload 6, 2) := by decide +kernel
theorem dL_law_2150 : decode cL_law 2150 = .ok (.if_icmp .eq 5, 3) := by decide +kernel
theorem dL_law_2153 : decode cL_law 2153 = .ok (.iconst 0, 1) := by decide +kernel
theorem dL_law_2154 : decode cL_law 2154 = .ok (.ireturn, 1) := by decide +kernel
theorem dL_law_2155 : decode cL_law 2155 = .ok (.iload 6, 2) := by decide +kernel
theorem dL_law_2157 : decode cL_law 2157 = .ok (.ifCond .ne 15, 3) := by decide +kernel
theorem dL_law_2160 : decode cL_law 2160 = .ok (.aload_n 3, 1) := by decide +kernel
theorem dL_law_2161 : decode cL_law 2161 = .ok (.iconst 0, 1) := by decide +kernel
theorem dL_law_2162 : decode cL_law 2162 = .ok (.laload, 1) := by decide +kernel
theorem dL_law_2163 : decode cL_law 2163 = .ok (.iload 7, 2) := by decide +kernel
theorem dL_law_2165 : decode cL_law 2165 = .ok (.i2l, 1) := by decide +kernel
theorem dL_law_2166 : decode cL_law 2166 = .ok (.lcmp, 1) := by decide +kernel
theorem dL_law_2167 : decode cL_law 2167 = .ok (.ifCond .eq 5, 3) := by decide +kernel
theorem dL_law_2170 : decode cL_law 2170 = .ok (.iconst 0, 1) := by decide +kernel
theorem dL_law_2171 : decode cL_law 2171 = .ok (.ireturn, 1) := by decide +kernel
theorem dL_law_2172 : decode cL_law 2172 = .ok (.goto 218, 3) := by decide +kernel
theorem dL_law_2175 : decode cL_law 2175 = .ok (.aload_n 1, 1) := by decide +kernel
theorem dL_law_2176 : decode cL_law 2176 = .ok (.aload_n 0, 1) := by decide +kernel
theorem dL_law_2177 : decode cL_law 2177 = .ok (.iload 5, 2) := by decide +kernel
theorem dL_law_2179 : decode cL_law 2179 = .ok (.iconst 1, 1) := by decide +kernel
theorem dL_law_2180 : decode cL_law 2180 = .ok (.iadd, 1) := by decide +kernel
theorem dL_law_2181 : decode cL_law 2181 = .ok (.iaload, 1) := by decide +kernel
theorem dL_law_2182 : decode cL_law 2182 = .ok (.aload_n 3, 1) := by decide +kernel
theorem dL_law_2183 : decode cL_law 2183 = .ok (.invokestatic 223, 3) := by decide +kernel
theorem dL_law_2186 : decode cL_law 2186 = .ok (.istore 6, 2) := by decide +kernel
theorem dL_law_2188 : decode cL_law 2188 = .ok (.aload_n 2, 1) := by decide +kernel
theorem dL_law_2189 : decode cL_law 2189 = .ok (.aload_n 0, 1) := by decide +kernel
theorem dL_law_2190 : decode cL_law 2190 = .ok (.iload 5, 2) := by decide +kernel
theorem dL_law_2192 : decode cL_law 2192 = .ok (.iconst 1, 1) := by decide +kernel
theorem dL_law_2193 : decode cL_law 2193 = .ok (.iadd, 1) := by decide +kernel
theorem dL_law_2194 : decode cL_law 2194 = .ok (.iaload, 1) := by decide +kernel
theorem dL_law_2195 : decode cL_law 2195 = .ok (.invokevirtual 225, 3) := by decide +kernel
theorem dL_law_2198 : decode cL_law 2198 = .ok (.istore 7, 2) := by decide +kernel
theorem dL_law_2200 : decode cL_law 2200 = .ok (.aload_n 2, 1) := by decide +kernel
theorem dL_law_2201 : decode cL_law 2201 = .ok (.invokevirtual 124, 3) := by decide +kernel
theorem dL_law_2204 : decode cL_law 2204 = .ok (.iload 6, 2) := by decide +kernel
theorem dL_law_2206 : decode cL_law 2206 = .ok (.if_icmp .eq 5, 3) := by decide +kernel
theorem dL_law_2209 : decode cL_law 2209 = .ok (.iconst 0, 1) := by decide +kernel
theorem dL_law_2210 : decode cL_law 2210 = .ok (.ireturn, 1) := by decide +kernel
theorem dL_law_2211 : decode cL_law 2211 = .ok (.iload 6, 2) := by decide +kernel
theorem dL_law_2213 : decode cL_law 2213 = .ok (.ifCond .ne 22, 3) := by decide +kernel
theorem dL_law_2216 : decode cL_law 2216 = .ok (.aload_n 3, 1) := by decide +kernel
theorem dL_law_2217 : decode cL_law 2217 = .ok (.iconst 0, 1) := by decide +kernel
theorem dL_law_2218 : decode cL_law 2218 = .ok (.laload, 1) := by decide +kernel
theorem dL_law_2219 : decode cL_law 2219 = .ok (.iload 7, 2) := by decide +kernel
theorem dL_law_2221 : decode cL_law 2221 = .ok (.ifCond .eq 7, 3) := by decide +kernel
theorem dL_law_2224 : decode cL_law 2224 = .ok (.lconst 1, 1) := by decide +kernel
theorem dL_law_2225 : decode cL_law 2225 = .ok (.goto 4, 3) := by decide +kernel
theorem dL_law_2228 : decode cL_law 2228 = .ok (.lconst 0, 1) := by decide +kernel
theorem dL_law_2229 : decode cL_law 2229 = .ok (.lcmp, 1) := by decide +kernel
theorem dL_law_2230 : decode cL_law 2230 = .ok (.ifCond .eq 5, 3) := by decide +kernel
theorem dL_law_2233 : decode cL_law 2233 = .ok (.iconst 0, 1) := by decide +kernel
theorem dL_law_2234 : decode cL_law 2234 = .ok (.ireturn, 1) := by decide +kernel
theorem dL_law_2235 : decode cL_law 2235 = .ok (.goto 155, 3) := by decide +kernel
theorem dL_law_2238 : decode cL_law 2238 = .ok (.aload_n 1, 1) := by decide +kernel
theorem dL_law_2239 : decode cL_law 2239 = .ok (.aload_n 0, 1) := by decide +kernel
theorem dL_law_2240 : decode cL_law 2240 = .ok (.iload 5, 2) := by decide +kernel
theorem dL_law_2242 : decode cL_law 2242 = .ok (.iconst 1, 1) := by decide +kernel
theorem dL_law_2243 : decode cL_law 2243 = .ok (.iadd, 1) := by decide +kernel
theorem dL_law_2244 : decode cL_law 2244 = .ok (.iaload, 1) := by decide +kernel
theorem dL_law_2245 : decode cL_law 2245 = .ok (.aload_n 3, 1) := by decide +kernel
theorem dL_law_2246 : decode cL_law 2246 = .ok (.invokestatic 226, 3) := by decide +kernel
theorem dL_law_2249 : decode cL_law 2249 = .ok (.istore 6, 2) := by decide +kernel
theorem dL_law_2251 : decode cL_law 2251 = .ok (.aload_n 2, 1) := by decide +kernel
theorem dL_law_2252 : decode cL_law 2252 = .ok (.aload_n 0, 1) := by decide +kernel
theorem dL_law_2253 : decode cL_law 2253 = .ok (.iload 5, 2) := by decide +kernel
theorem dL_law_2255 : decode cL_law 2255 = .ok (.iconst 1, 1) := by decide +kernel
theorem dL_law_2256 : decode cL_law 2256 = .ok (.iadd, 1) := by decide +kernel
theorem dL_law_2257 : decode cL_law 2257 = .ok (.iaload, 1) := by decide +kernel
theorem dL_law_2258 : decode cL_law 2258 = .ok (.invokevirtual 228, 3) := by decide +kernel
theorem dL_law_2261 : decode cL_law 2261 = .ok (.istore 7, 2) := by decide +kernel
theorem dL_law_2263 : decode cL_law 2263 = .ok (.aload_n 2, 1) := by decide +kernel
theorem dL_law_2264 : decode cL_law 2264 = .ok (.invokevirtual 124, 3) := by decide +kernel
theorem dL_law_2267 : decode cL_law 2267 = .ok (.iload 6, 2) := by decide +kernel
theorem dL_law_2269 : decode cL_law 2269 = .ok (.if_icmp .eq 5, 3) := by decide +kernel
theorem dL_law_2272 : decode cL_law 2272 = .ok (.iconst 0, 1) := by decide +kernel
theorem dL_law_2273 : decode cL_law 2273 = .ok (.ireturn, 1) := by decide +kernel
theorem dL_law_2274 : decode cL_law 2274 = .ok (.iload 6, 2) := by decide +kernel
theorem dL_law_2276 : decode cL_law 2276 = .ok (.ifCond .ne 22, 3) := by decide +kernel
theorem dL_law_2279 : decode cL_law 2279 = .ok (.aload_n 3, 1) := by decide +kernel
theorem dL_law_2280 : decode cL_law 2280 = .ok (.iconst 0, 1) := by decide +kernel
theorem dL_law_2281 : decode cL_law 2281 = .ok (.laload, 1) := by decide +kernel
theorem dL_law_2282 : decode cL_law 2282 = .ok (.iload 7, 2) := by decide +kernel
theorem dL_law_2284 : decode cL_law 2284 = .ok (.ifCond .eq 7, 3) := by decide +kernel
theorem dL_law_2287 : decode cL_law 2287 = .ok (.lconst 1, 1) := by decide +kernel
theorem dL_law_2288 : decode cL_law 2288 = .ok (.goto 4, 3) := by decide +kernel
theorem dL_law_2291 : decode cL_law 2291 = .ok (.lconst 0, 1) := by decide +kernel
theorem dL_law_2292 : decode cL_law 2292 = .ok (.lcmp, 1) := by decide +kernel
theorem dL_law_2293 : decode cL_law 2293 = .ok (.ifCond .eq 5, 3) := by decide +kernel
theorem dL_law_2296 : decode cL_law 2296 = .ok (.iconst 0, 1) := by decide +kernel
theorem dL_law_2297 : decode cL_law 2297 = .ok (.ireturn, 1) := by decide +kernel
theorem dL_law_2298 : decode cL_law 2298 = .ok (.goto 92, 3) := by decide +kernel
theorem dL_law_2301 : decode cL_law 2301 = .ok (.aload_n 1, 1) := by decide +kernel
theorem dL_law_2302 : decode cL_law 2302 = .ok (.aload_n 0, 1) := by decide +kernel
theorem dL_law_2303 : decode cL_law 2303 = .ok (.iload 5, 2) := by decide +kernel
theorem dL_law_2305 : decode cL_law 2305 = .ok (.iconst 1, 1) := by decide +kernel
theorem dL_law_2306 : decode cL_law 2306 = .ok (.iadd, 1) := by decide +kernel
theorem dL_law_2307 : decode cL_law 2307 = .ok (.iaload, 1) := by decide +kernel
theorem dL_law_2308 : decode cL_law 2308 = .ok (.aload_n 0, 1) := by decide +kernel
theorem dL_law_2309 : decode cL_law 2309 = .ok (.iload 5, 2) := by decide +kernel
theorem dL_law_2311 : decode cL_law 2311 = .ok (.iconst 2, 1) := by decide +kernel
theorem dL_law_2312 : decode cL_law 2312 = .ok (.iadd, 1) := by decide +kernel
theorem dL_law_2313 : decode cL_law 2313 = .ok (.iaload, 1) := by decide +kernel
theorem dL_law_2314 : decode cL_law 2314 = .ok (.aload_n 3, 1) := by decide +kernel
theorem dL_law_2315 : decode cL_law 2315 = .ok (.invokestatic 229, 3) := by decide +kernel
theorem dL_law_2318 : decode cL_law 2318 = .ok (.istore 6, 2) := by decide +kernel
theorem dL_law_2320 : decode cL_law 2320 = .ok (.aload_n 2, 1) := by decide +kernel
theorem dL_law_2321 : decode cL_law 2321 = .ok (.aload_n 0, 1) := by decide +kernel
theorem dL_law_2322 : decode cL_law 2322 = .ok (.iload 5, 2) := by decide +kernel
theorem dL_law_2324 : decode cL_law 2324 = .ok (.iconst 1, 1) := by decide +kernel
theorem dL_law_2325 : decode cL_law 2325 = .ok (.iadd, 1) := by decide +kernel
theorem dL_law_2326 : decode cL_law 2326 = .ok (.iaload, 1) := by decide +kernel
theorem dL_law_2327 : decode cL_law 2327 = .ok (.aload_n 0, 1) := by decide +kernel
theorem dL_law_2328 : decode cL_law 2328 = .ok (.iload 5, 2) := by decide +kernel
theorem dL_law_2330 : decode cL_law 2330 = .ok (.iconst 2, 1) := by decide +kernel
theorem dL_law_2331 : decode cL_law 2331 = .ok (.iadd, 1) := by decide +kernel
theorem dL_law_2332 : decode cL_law 2332 = .ok (.iaload, 1) := by decide +kernel
theorem dL_law_2333 : decode cL_law 2333 = .ok (.invokevirtual 231, 3) := by decide +kernel
theorem dL_law_2336 : decode cL_law 2336 = .ok (.istore 7, 2) := by decide +kernel
theorem dL_law_2338 : decode cL_law 2338 = .ok (.aload_n 2, 1) := by decide +kernel
theorem dL_law_2339 : decode cL_law 2339 = .ok (.invokevirtual 124, 3) := by decide +kernel
theorem dL_law_2342 : decode cL_law 2342 = .ok (.iload 6, 2) := by decide +kernel
theorem dL_law_2344 : decode cL_law 2344 = .ok (.if_icmp .eq 5, 3) := by decide +kernel
theorem dL_law_2347 : decode cL_law 2347 = .ok (.iconst 0, 1) := by decide +kernel
theorem dL_law_2348 : decode cL_law 2348 = .ok (.ireturn, 1) := by decide +kernel
theorem dL_law_2349 : decode cL_law 2349 = .ok (.iload 6, 2) := by decide +kernel
theorem dL_law_2351 : decode cL_law 2351 = .ok (.ifCond .ne 22, 3) := by decide +kernel
theorem dL_law_2354 : decode cL_law 2354 = .ok (.aload_n 3, 1) := by decide +kernel
theorem dL_law_2355 : decode cL_law 2355 = .ok (.iconst 0, 1) := by decide +kernel
theorem dL_law_2356 : decode cL_law 2356 = .ok (.laload, 1) := by decide +kernel
theorem dL_law_2357 : decode cL_law 2357 = .ok (.iload 7, 2) := by decide +kernel
theorem dL_law_2359 : decode cL_law 2359 = .ok (.ifCond .eq 7, 3) := by decide +kernel
theorem dL_law_2362 : decode cL_law 2362 = .ok (.lconst 1, 1) := by decide +kernel
theorem dL_law_2363 : decode cL_law 2363 = .ok (.goto 4, 3) := by decide +kernel
theorem dL_law_2366 : decode cL_law 2366 = .ok (.lconst 0, 1) := by decide +kernel
theorem dL_law_2367 : decode cL_law 2367 = .ok (.lcmp, 1) := by decide +kernel
theorem dL_law_2368 : decode cL_law 2368 = .ok (.ifCond .eq 5, 3) := by decide +kernel
theorem dL_law_2371 : decode cL_law 2371 = .ok (.iconst 0, 1) := by decide +kernel
theorem dL_law_2372 : decode cL_law 2372 = .ok (.ireturn, 1) := by decide +kernel
theorem dL_law_2373 : decode cL_law 2373 = .ok (.goto 17, 3) := by decide +kernel
theorem dL_law_2376 : decode cL_law 2376 = .ok (.aload_n 1, 1) := by decide +kernel
theorem dL_law_2377 : decode cL_law 2377 = .ok (.invokevirtual 232, 3) := by decide +kernel
theorem dL_law_2380 : decode cL_law 2380 = .ok (.aload_n 2, 1) := by decide +kernel
theorem dL_law_2381 : decode cL_law 2381 = .ok (.invokevirtual 236, 3) := by decide +kernel
theorem dL_law_2384 : decode cL_law 2384 = .ok (.lcmp, 1) := by decide +kernel
theorem dL_law_2385 : decode cL_law 2385 = .ok (.ifCond .eq 5, 3) := by decide +kernel
theorem dL_law_2388 : decode cL_law 2388 = .ok (.iconst 0, 1) := by decide +kernel
theorem dL_law_2389 : decode cL_law 2389 = .ok (.ireturn, 1) := by decide +kernel
theorem dL_law_2390 : decode cL_law 2390 = .ok (.iinc 5 6, 3) := by decide +kernel
theorem dL_law_2393 : decode cL_law 2393 = .ok (.goto (-2365), 3) := by decide +kernel
theorem dL_law_2396 : decode cL_law 2396 = .ok (.iconst 1, 1) := by decide +kernel
theorem dL_law_2397 : decode cL_law 2397 = .ok (.ireturn, 1) := by decide +kernel
abbrev vwCl : List vw_C := [(RX0, TX0, 4), (RX1, TX1, 1), (RX2, TX2, 5), (RX3, TX3, 8)]
