theorem dX0_init_0 : decode cX0_init 0 = .ok (.aload_n 0, 1) := by decide +kernel
theorem dX0_init_1 : decode cX0_init 1 = .ok (.invokespecial 3, 3) := by decide +kernel
theorem dX0_init_4 : decode cX0_init 4 = .ok (.aload_n 0, 1) := by decide +kernel
theorem dX0_init_5 : decode cX0_init 5 = .ok (.sipush 300, 3) := by decide +kernel
theorem dX0_init_8 : decode cX0_init 8 = .ok (.newarray .int, 2) := by decide +kernel
theorem dX0_init_10 : decode cX0_init 10 = .ok (.putfield 9, 3) := by decide +kernel
theorem dX0_init_13 : decode cX0_init 13 = .ok (.aload_n 0, 1) := by decide +kernel
theorem dX0_init_14 : decode cX0_init 14 = .ok (.iconst 0, 1) := by decide +kernel
theorem dX0_init_15 : decode cX0_init 15 = .ok (.putfield 15, 3) := by decide +kernel
theorem dX0_init_18 : decode cX0_init 18 = .ok (.aload_n 0, 1) := by decide +kernel
theorem dX0_init_19 : decode cX0_init 19 = .ok (.bipush 64, 2) := by decide +kernel
theorem dX0_init_21 : decode cX0_init 21 = .ok (.newarray .int, 2) := by decide +kernel
theorem dX0_init_23 : decode cX0_init 23 = .ok (.putfield 19, 3) := by decide +kernel
theorem dX0_init_26 : decode cX0_init 26 = .ok (.aload_n 0, 1) := by decide +kernel
theorem dX0_init_27 : decode cX0_init 27 = .ok (.bipush 64, 2) := by decide +kernel
theorem dX0_init_29 : decode cX0_init 29 = .ok (.newarray .int, 2) := by decide +kernel
theorem dX0_init_31 : decode cX0_init 31 = .ok (.putfield 22, 3) := by decide +kernel
theorem dX0_init_34 : decode cX0_init 34 = .ok (.aload_n 0, 1) := by decide +kernel
theorem dX0_init_35 : decode cX0_init 35 = .ok (.bipush 64, 2) := by decide +kernel
theorem dX0_init_37 : decode cX0_init 37 = .ok (.newarray .int, 2) := by decide +kernel
theorem dX0_init_39 : decode cX0_init 39 = .ok (.putfield 25, 3) := by decide +kernel
theorem dX0_init_42 : decode cX0_init 42 = .ok (.aload_n 0, 1) := by decide +kernel
theorem dX0_init_43 : decode cX0_init 43 = .ok (.bipush 64, 2) := by decide +kernel
theorem dX0_init_45 : decode cX0_init 45 = .ok (.newarray .int, 2) := by decide +kernel
theorem dX0_init_47 : decode cX0_init 47 = .ok (.putfield 28, 3) := by decide +kernel
theorem dX0_init_50 : decode cX0_init 50 = .ok (.aload_n 0, 1) := by decide +kernel
theorem dX0_init_51 : decode cX0_init 51 = .ok (.iconst 0, 1) := by decide +kernel
theorem dX0_init_52 : decode cX0_init 52 = .ok (.putfield 31, 3) := by decide +kernel
theorem dX0_init_55 : decode cX0_init 55 = .ok (.aload_n 0, 1) := by decide +kernel
theorem dX0_init_56 : decode cX0_init 56 = .ok (.bipush 16, 2) := by decide +kernel
theorem dX0_init_58 : decode cX0_init 58 = .ok (.newarray .int, 2) := by decide +kernel
theorem dX0_init_60 : decode cX0_init 60 = .ok (.putfield 34, 3) := by decide +kernel
theorem dX0_init_63 : decode cX0_init 63 = .ok (.aload_n 0, 1) := by decide +kernel
theorem dX0_init_64 : decode cX0_init 64 = .ok (.iconst 0, 1) := by decide +kernel
theorem dX0_init_65 : decode cX0_init 65 = .ok (.putfield 37, 3) := by decide +kernel
theorem dX0_init_68 : decode cX0_init 68 = .ok (.aload_n 0, 1) := by decide +kernel
theorem dX0_init_69 : decode cX0_init 69 = .ok (.iconst (-1), 1) := by decide +kernel
theorem dX0_init_70 : decode cX0_init 70 = .ok (.putfield 40, 3) := by decide +kernel
theorem dX0_init_73 : decode cX0_init 73 = .ok (.return_, 1) := by decide +kernel
set_option maxRecDepth 20000 in
theorem ggX0_addByte_X1_isByte : GoodIn wsX0_addByte wsX1_isByte := goodIn_r _ [7] (by decide +kernel) (by decide +kernel)
set_option maxRecDepth 20000 in
theorem gX0_addByte_X1_isByte : GoodIn wsX0_addByte (va_wsS RX0 43 yX1_isByte wsX1_isByte) := goodIn_app (goodIn_of _ (by decide +kernel)) ggX0_addByte_X1_isByte
theorem dX0_addByte_0 : decode cX0_addByte 0 = .ok (.iload_n 1, 1) := by decide +kernel
theorem dX0_addByte_1 : decode cX0_addByte 1 = .ok (.invokestatic 43, 3) := by decide +kernel
theorem dX0_addByte_4 : decode cX0_addByte 4 = .ok (.ifCond .ne 5, 3) := by decide +kernel
theorem dX0_addByte_7 : decode cX0_addByte 7 = .ok (.iconst (-1), 1) := by decide +kernel
theorem dX0_addByte_8 : decode cX0_addByte 8 = .ok (.ireturn, 1) := by decide +kernel
theorem dX0_addByte_9 : decode cX0_addByte 9 = .ok (.aload_n 0, 1) := by decide +kernel
theorem dX0_addByte_10 : decode cX0_addByte 10 = .ok (.getfield 15, 3) := by decide +kernel
theorem dX0_addByte_13 : decode cX0_addByte 13 = .ok (.sipush 300, 3) := by decide +kernel
theorem dX0_addByte_16 : decode cX0_addByte 16 = .ok (.if_icmp .lt 6, 3) := by decide +kernel
theorem dX0_addByte_19 : decode cX0_addByte 19 = .ok (.bipush (-3), 2) := by decide +kernel
theorem dX0_addByte_21 : decode cX0_addByte 21 = .ok (.ireturn, 1) := by decide +kernel
theorem dX0_addByte_22 : decode cX0_addByte 22 = .ok (.aload_n 0, 1) := by decide +kernel
theorem dX0_addByte_23 : decode cX0_addByte 23 = .ok (.getfield 9, 3) := by decide +kernel
theorem dX0_addByte_26 : decode cX0_addByte 26 = .ok (.aload_n 0, 1) := by decide +kernel
theorem dX0_addByte_27 : decode cX0_addByte 27 = .ok (.getfield 15, 3) := by decide +kernel
theorem dX0_addByte_30 : decode cX0_addByte 30 = .ok (.iload_n 1, 1) := by decide +kernel
theorem dX0_addByte_31 : decode cX0_addByte 31 = .ok (.iastore, 1) := by decide +kernel
theorem dX0_addByte_32 : decode cX0_addByte 32 = .ok (.aload_n 0, 1) := by decide +kernel
theorem dX0_addByte_33 : decode cX0_addByte 33 = .ok (.dup, 1) := by decide +kernel
theorem dX0_addByte_34 : decode cX0_addByte 34 = .ok (.getfield 15, 3) := by decide +kernel
theorem dX0_addByte_37 : decode cX0_addByte 37 = .ok (.iconst 1, 1) := by decide +kernel
theorem dX0_addByte_38 : decode cX0_addByte 38 = .ok (.iadd, 1) := by decide +kernel
theorem dX0_addByte_39 : decode cX0_addByte 39 = .ok (.putfield 15, 3) := by decide +kernel
theorem dX0_addByte_42 : decode cX0_addByte 42 = .ok (.aload_n 0, 1) := by decide +kernel
theorem dX0_addByte_43 : decode cX0_addByte 43 = .ok (.iconst 0, 1) := by decide +kernel
theorem dX0_addByte_44 : decode cX0_addByte 44 = .ok (.putfield 31, 3) := by decide +kernel
theorem dX0_addByte_47 : decode cX0_addByte 47 = .ok (.iconst 0, 1) := by decide +kernel
theorem dX0_addByte_48 : decode cX0_addByte 48 = .ok (.ireturn, 1) := by decide +kernel
theorem dX0_clear_0 : decode cX0_clear 0 = .ok (.aload_n 0, 1) := by decide +kernel
theorem dX0_clear_1 : decode cX0_clear 1 = .ok (.iconst 0, 1) := by decide +kernel
theorem dX0_clear_2 : decode cX0_clear 2 = .ok (.putfield 15, 3) := by decide +kernel
theorem dX0_clear_5 : decode cX0_clear 5 = .ok (.aload_n 0, 1) := by decide +kernel
theorem dX0_clear_6 : decode cX0_clear 6 = .ok (.iconst 0, 1) := by decide +kernel
theorem dX0_clear_7 : decode cX0_clear 7 = .ok (.putfield 31, 3) := by decide +kernel
theorem dX0_clear_10 : decode cX0_clear 10 = .ok (.return_, 1) := by decide +kernel
set_option maxRecDepth 20000 in
theorem ggX0_readRow_X0_readValues : GoodIn wsX0_readRow wsX0_readValues := goodIn_r _ [8, 1, 2, 9, 10, 11, 12, 7, 13, 14, 15, 16, 17, 18, 19, 20, 21, 22, 23, 24, 25, 3, 26, 27, 28, 29, 30, 31, 32, 33, 34, 35, 36, 37, 38, 39, 40, 41, 42, 43, 44, 45, 46, 47, 48, 49, 50, 51, 52, 53, 54, 55, 56, 57, 58, 59, 60, 61, 62, 63, 64, 65, 66, 67, 68, 69, 70, 71, 72, 73, 74, 75, 76, 77, 78, 79, 80, 81, 82, 83, 84, 85, 86, 87, 88] (by decide +kernel) (by decide +kernel)
set_option maxRecDepth 20000 in
theorem gX0_readRow_X0_readValues : GoodIn wsX0_readRow (wsV RX0 49 RX0 yX0_readValues wsX0_readValues) := goodIn_app (goodIn_of _ (by decide +kernel)) ggX0_readRow_X0_readValues
theorem dX0_readRow_0 : decode cX0_readRow 0 = .ok (.aload_n 0, 1) := by decide +kernel
theorem dX0_readRow_1 : decode cX0_readRow 1 = .ok (.iconst 0, 1) := by decide +kernel
theorem dX0_readRow_2 : decode cX0_readRow 2 = .ok (.putfield 31, 3) := by decide +kernel
theorem dX0_readRow_5 : decode cX0_readRow 5 = .ok (.aload_n 0, 1) := by decide +kernel
theorem dX0_readRow_6 : decode cX0_readRow 6 = .ok (.iconst 0, 1) := by decide +kernel
theorem dX0_readRow_7 : decode cX0_readRow 7 = .ok (.putfield 37, 3) := by decide +kernel
theorem dX0_readRow_10 : decode cX0_readRow 10 = .ok (.aload_n 0, 1) := by decide +kernel
theorem dX0_readRow_11 : decode cX0_readRow 11 = .ok (.iconst (-1), 1) := by decide +kernel
theorem dX0_readRow_12 : decode cX0_readRow 12 = .ok (.putfield 40, 3) := by decide +kernel
theorem dX0_readRow_15 : decode cX0_readRow 15 = .ok (.aload_n 0, 1) := by decide +kernel
theorem dX0_readRow_16 : decode cX0_readRow 16 = .ok (.invokevirtual 49, 3) := by decide +kernel
theorem dX0_readRow_19 : decode cX0_readRow 19 = .ok (.istore_n 1, 1) := by decide +kernel
theorem dX0_readRow_20 : decode cX0_readRow 20 = .ok (.iload_n 1, 1) := by decide +kernel
theorem dX0_readRow_21 : decode cX0_readRow 21 = .ok (.ifCond .eq 8, 3) := by decide +kernel
theorem dX0_readRow_24 : decode cX0_readRow 24 = .ok (.aload_n 0, 1) := by decide +kernel
theorem dX0_readRow_25 : decode cX0_readRow 25 = .ok (.iconst 0, 1) := by decide +kernel
theorem dX0_readRow_26 : decode cX0_readRow 26 = .ok (.putfield 31, 3) := by decide +kernel
theorem dX0_readRow_29 : decode cX0_readRow 29 = .ok (.iload_n 1, 1) := by decide +kernel
theorem dX0_readRow_30 : decode cX0_readRow 30 = .ok (.ireturn, 1) := by decide +kernel
set_option maxRecDepth 20000 in
theorem ggX0_readValues_X0_readValue : GoodIn wsX0_readValues wsX0_readValue := goodIn_r _ [8, 1, 9, 10, 11, 7, 12, 3, 13, 2, 14, 15, 16, 17, 18, 19, 20, 21, 22, 23, 24, 25, 26, 27, 28, 29, 30, 31, 32, 33, 34, 35, 36, 37, 38, 39, 40, 41, 42, 43, 44, 45, 46, 47, 48, 49, 50, 51, 52, 53, 54, 55, 56, 57, 58, 59, 60, 61, 62, 63, 64, 65, 66, 75, 76, 77, 78, 79, 80, 81, 82, 83, 84] (by decide +kernel) (by decide +kernel)
set_option maxRecDepth 20000 in
theorem gX0_readValues_X0_readValue : GoodIn wsX0_readValues (wsV RX0 53 RX0 yX0_readValue wsX0_readValue) := goodIn_app (goodIn_of _ (by decide +kernel)) ggX0_readValues_X0_readValue
set_option maxRecDepth 20000 in
theorem ggX0_readValues_X0_goOnFrom : GoodIn wsX0_readValues wsX0_goOnFrom := goodIn_r _ [70, 14, 16, 2, 30, 36, 37, 38, 7, 39, 31, 75, 76, 77, 78, 79, 80, 81, 82, 83, 84] (by decide +kernel) (by decide +kernel)
set_option maxRecDepth 20000 in
theorem gX0_readValues_X0_goOnFrom : GoodIn wsX0_readValues (wsV RX0 57 RX0 yX0_goOnFrom wsX0_goOnFrom) := goodIn_app (goodIn_of _ (by decide +kernel)) ggX0_readValues_X0_goOnFrom
set_option maxRecDepth 20000 in
theorem ggX0_readValues_X0_leaveSequencesThatEndAt : GoodIn wsX0_readValues wsX0_leaveSequencesThatEndAt := goodIn_r _ [74, 2, 16, 36, 37, 38, 7, 39, 30, 31, 75, 76, 77, 78, 79, 80, 81, 82, 83, 84] (by decide +kernel) (by decide +kernel)
set_option maxRecDepth 20000 in
theorem gX0_readValues_X0_leaveSequencesThatEndAt : GoodIn wsX0_readValues (wsV RX0 60 RX0 yX0_leaveSequencesThatEndAt wsX0_leaveSequencesThatEndAt) := goodIn_app (goodIn_of _ (by decide +kernel)) ggX0_readValues_X0_leaveSequencesThatEndAt
set_option maxRecDepth 20000 in
theorem ggX0_readValues_X0_offend : GoodIn wsX0_readValues wsX0_offend := goodIn_r _ [20, 21, 75, 76, 77, 78, 79, 80, 81, 82, 83, 84] (by decide +kernel) (by decide +kernel)
set_option maxRecDepth 20000 in
theorem gX0_readValues_X0_offend : GoodIn wsX0_readValues (wsV RX0 64 RX0 yX0_offend wsX0_offend) := goodIn_app (goodIn_of _ (by decide +kernel)) ggX0_readValues_X0_offend
theorem dX0_readValues_0 : decode cX0_readValues 0 = .ok (.iconst 0, 1) := by decide +kernel
theorem dX0_readValues_1 : decode cX0_readValues 1 = .ok (.istore_n 1, 1) := by decide +kernel
theorem dX0_readValues_2 : decode cX0_readValues 2 = .ok (.iconst 0, 1) := by decide +kernel
theorem dX0_readValues_3 : decode cX0_readValues 3 = .ok (.istore_n 2, 1) := by decide +kernel
theorem dX0_readValues_4 : decode cX0_readValues 4 = .ok (.iload_n 2, 1) := by decide +kernel
theorem dX0_readValues_5 : decode cX0_readValues 5 = .ok (.bipush 64, 2) := by decide +kernel
theorem dX0_readValues_7 : decode cX0_readValues 7 = .ok (.if_icmp .gt 64, 3) := by decide +kernel
theorem dX0_readValues_10 : decode cX0_readValues 10 = .ok (.aload_n 0, 1) := by decide +kernel
theorem dX0_readValues_11 : decode cX0_readValues 11 = .ok (.iload_n 1, 1) := by decide +kernel
theorem dX0_readValues_12 : decode cX0_readValues 12 = .ok (.invokevirtual 53, 3) := by decide +kernel
theorem dX0_readValues_15 : decode cX0_readValues 15 = .ok (.istore_n 3, 1) := by decide +kernel
theorem dX0_readValues_16 : decode cX0_readValues 16 = .ok (.iload_n 3, 1) := by decide +kernel
theorem dX0_readValues_17 : decode cX0_readValues 17 = .ok (.ifCond .eq 5, 3) := by decide +kernel
theorem dX0_readValues_20 : decode cX0_readValues 20 = .ok (.iload_n 3, 1) := by decide +kernel
theorem dX0_readValues_21 : decode cX0_readValues 21 = .ok (.ireturn, 1) := by decide +kernel
theorem dX0_readValues_22 : decode cX0_readValues 22 = .ok (.aload_n 0, 1) := by decide +kernel
theorem dX0_readValues_23 : decode cX0_readValues 23 = .ok (.aload_n 0, 1) := by decide +kernel
theorem dX0_readValues_24 : decode cX0_readValues 24 = .ok (.getfield 31, 3) := by decide +kernel
theorem dX0_readValues_27 : decode cX0_readValues 27 = .ok (.iconst 1, 1) := by decide +kernel
theorem dX0_readValues_28 : decode cX0_readValues 28 = .ok (.isub, 1) := by decide +kernel
theorem dX0_readValues_29 : decode cX0_readValues 29 = .ok (.invokevirtual 57, 3) := by decide +kernel
theorem dX0_readValues_32 : decode cX0_readValues 32 = .ok (.istore_n 1, 1) := by decide +kernel
theorem dX0_readValues_33 : decode cX0_readValues 33 = .ok (.aload_n 0, 1) := by decide +kernel
theorem dX0_readValues_34 : decode cX0_readValues 34 = .ok (.iload_n 1, 1) := by decide +kernel
theorem dX0_readValues_35 : decode cX0_readValues 35 = .ok (.invokevirtual 60, 3) := by decide +kernel
theorem dX0_readValues_38 : decode cX0_readValues 38 = .ok (.aload_n 0, 1) := by decide +kernel
theorem dX0_readValues_39 : decode cX0_readValues 39 = .ok (.getfield 37, 3) := by decide +kernel
theorem dX0_readValues_42 : decode cX0_readValues 42 = .ok (.ifCond .ne 23, 3) := by decide +kernel
theorem dX0_readValues_45 : decode cX0_readValues 45 = .ok (.iload_n 1, 1) := by decide +kernel
theorem dX0_readValues_46 : decode cX0_readValues 46 = .ok (.aload_n 0, 1) := by decide +kernel
theorem dX0_readValues_47 : decode cX0_readValues 47 = .ok (.getfield 15, 3) := by decide +kernel
theorem dX0_readValues_50 : decode cX0_readValues 50 = .ok (.if_icmp .ge 13, 3) := by decide +kernel
theorem dX0_readValues_53 : decode cX0_readValues 53 = .ok (.aload_n 0, 1) := by decide +kernel
theorem dX0_readValues_54 : decode cX0_readValues 54 = .ok (.bipush (-6), 2) := by decide +kernel
theorem dX0_readValues_56 : decode cX0_readValues 56 = .ok (.iload_n 1, 1) := by decide +kernel
theorem dX0_readValues_57 : decode cX0_readValues 57 = .ok (.invokevirtual 64, 3) := by decide +kernel
theorem dX0_readValues_60 : decode cX0_readValues 60 = .ok (.goto 4, 3) := by decide +kernel
theorem dX0_readValues_63 : decode cX0_readValues 63 = .ok (.iconst 0, 1) := by decide +kernel
theorem dX0_readValues_64 : decode cX0_readValues 64 = .ok (.ireturn, 1) := by decide +kernel
theorem dX0_readValues_65 : decode cX0_readValues 65 = .ok (.iinc 2 1, 3) := by decide +kernel
theorem dX0_readValues_68 : decode cX0_readValues 68 = .ok (.goto (-64), 3) := by decide +kernel
theorem dX0_readValues_71 : decode cX0_readValues 71 = .ok (.aload_n 0, 1) := by decide +kernel
theorem dX0_readValues_72 : decode cX0_readValues 72 = .ok (.bipush (-7), 2) := by decide +kernel
theorem dX0_readValues_74 : decode cX0_readValues 74 = .ok (.iload_n 1, 1) := by decide +kernel
theorem dX0_readValues_75 : decode cX0_readValues 75 = .ok (.invokevirtual 64, 3) := by decide +kernel
theorem dX0_readValues_78 : decode cX0_readValues 78 = .ok (.ireturn, 1) := by decide +kernel
set_option maxRecDepth 20000 in
theorem ggX0_readValue_X0_readIdentifier : GoodIn wsX0_readValue wsX0_readIdentifier := goodIn_r _ [6, 7, 8, 1, 9, 10, 11, 12, 13, 14, 15, 5, 16, 17, 18, 19, 20, 21, 63, 64, 65, 66, 67, 68, 69, 70, 71, 72] (by decide +kernel) (by decide +kernel)
set_option maxRecDepth 20000 in
theorem gX0_readValue_X0_readIdentifier : GoodIn wsX0_readValue (wsV RX0 68 RX0 yX0_readIdentifier wsX0_readIdentifier) := goodIn_app (goodIn_of _ (by decide +kernel)) ggX0_readValue_X0_readIdentifier
set_option maxRecDepth 20000 in
theorem ggX0_readValue_X0_readLength : GoodIn wsX0_readValue wsX0_readLength := goodIn_r _ [25, 8, 26, 1, 27, 28, 29, 30, 5, 31, 9, 7, 12, 32, 33, 34, 35, 36, 37, 38, 39, 13, 14, 15, 16, 17, 40, 41, 42, 43, 44, 45, 20, 46, 63, 64, 65, 66, 67, 68, 69, 70, 71, 72] (by decide +kernel) (by decide +kernel)
set_option maxRecDepth 20000 in
theorem gX0_readValue_X0_readLength : GoodIn wsX0_readValue (wsV RX0 71 RX0 yX0_readLength wsX0_readLength) := goodIn_app (goodIn_of _ (by decide +kernel)) ggX0_readValue_X0_readLength
set_option maxRecDepth 20000 in
theorem ggX0_readValue_X0_checkContents : GoodIn wsX0_readValue wsX0_checkContents := goodIn_r _ [50, 26, 1, 27, 10, 8, 28, 29, 30, 5, 31, 9, 7, 12, 32, 33, 34, 35, 13, 14, 15, 16, 17, 51, 52, 20, 53, 54, 55, 56, 57, 58, 59, 60, 61, 62, 63, 64, 65, 66, 67, 68, 69, 70, 71, 72] (by decide +kernel) (by decide +kernel)
set_option maxRecDepth 20000 in
theorem gX0_readValue_X0_checkContents : GoodIn wsX0_readValue (wsV RX0 74 RX0 yX0_checkContents wsX0_checkContents) := goodIn_app (goodIn_of _ (by decide +kernel)) ggX0_readValue_X0_checkContents
theorem dX0_readValue_0 : decode cX0_readValue 0 = .ok (.aload_n 0, 1) := by decide +kernel
theorem dX0_readValue_1 : decode cX0_readValue 1 = .ok (.iload_n 1, 1) := by decide +kernel
theorem dX0_readValue_2 : decode cX0_readValue 2 = .ok (.invokevirtual 68, 3) := by decide +kernel
theorem dX0_readValue_5 : decode cX0_readValue 5 = .ok (.istore_n 2, 1) := by decide +kernel
theorem dX0_readValue_6 : decode cX0_readValue 6 = .ok (.iload_n 2, 1) := by decide +kernel
theorem dX0_readValue_7 : decode cX0_readValue 7 = .ok (.ifCond .ne 9, 3) := by decide +kernel
theorem dX0_readValue_10 : decode cX0_readValue 10 = .ok (.aload_n 0, 1) := by decide +kernel
theorem dX0_readValue_11 : decode cX0_readValue 11 = .ok (.iload_n 1, 1) := by decide +kernel
theorem dX0_readValue_12 : decode cX0_readValue 12 = .ok (.invokevirtual 71, 3) := by decide +kernel
theorem dX0_readValue_15 : decode cX0_readValue 15 = .ok (.istore_n 2, 1) := by decide +kernel
theorem dX0_readValue_16 : decode cX0_readValue 16 = .ok (.iload_n 2, 1) := by decide +kernel
theorem dX0_readValue_17 : decode cX0_readValue 17 = .ok (.ifCond .ne 9, 3) := by decide +kernel
theorem dX0_readValue_20 : decode cX0_readValue 20 = .ok (.aload_n 0, 1) := by decide +kernel
theorem dX0_readValue_21 : decode cX0_readValue 21 = .ok (.iload_n 1, 1) := by decide +kernel
theorem dX0_readValue_22 : decode cX0_readValue 22 = .ok (.invokevirtual 74, 3) := by decide +kernel
theorem dX0_readValue_25 : decode cX0_readValue 25 = .ok (.istore_n 2, 1) := by decide +kernel
theorem dX0_readValue_26 : decode cX0_readValue 26 = .ok (.iload_n 2, 1) := by decide +kernel
theorem dX0_readValue_27 : decode cX0_readValue 27 = .ok (.ifCond .ne 13, 3) := by decide +kernel
theorem dX0_readValue_30 : decode cX0_readValue 30 = .ok (.aload_n 0, 1) := by decide +kernel
theorem dX0_readValue_31 : decode cX0_readValue 31 = .ok (.dup, 1) := by decide +kernel
theorem dX0_readValue_32 : decode cX0_readValue 32 = .ok (.getfield 31, 3) := by decide +kernel
theorem dX0_readValue_35 : decode cX0_readValue 35 = .ok (.iconst 1, 1) := by decide +kernel
theorem dX0_readValue_36 : decode cX0_readValue 36 = .ok (.iadd, 1) := by decide +kernel
theorem dX0_readValue_37 : decode cX0_readValue 37 = .ok (.putfield 31, 3) := by decide +kernel
theorem dX0_readValue_40 : decode cX0_readValue 40 = .ok (.iload_n 2, 1) := by decide +kernel
theorem dX0_readValue_41 : decode cX0_readValue 41 = .ok (.ireturn, 1) := by decide +kernel
set_option maxRecDepth 20000 in
theorem ggX0_readIdentifier_X0_offend : GoodIn wsX0_readIdentifier wsX0_offend := goodIn_r _ [12, 13, 18, 19, 20, 21, 22, 23, 24, 25, 26, 27] (by decide +kernel) (by decide +kernel)
set_option maxRecDepth 20000 in
theorem gX0_readIdentifier_X0_offend : GoodIn wsX0_readIdentifier (wsV RX0 64 RX0 yX0_offend wsX0_offend) := goodIn_app (goodIn_of _ (by decide +kernel)) ggX0_readIdentifier_X0_offend
set_option maxRecDepth 20000 in
theorem ggX0_readIdentifier_X1_isIdentifier : GoodIn wsX0_readIdentifier wsX1_isIdentifier := goodIn_r _ [17] (by decide +kernel) (by decide +kernel)
set_option maxRecDepth 20000 in
theorem gX0_readIdentifier_X1_isIdentifier : GoodIn wsX0_readIdentifier (va_wsS RX0 77 yX1_isIdentifier wsX1_isIdentifier) := goodIn_app (goodIn_of _ (by decide +kernel)) ggX0_readIdentifier_X1_isIdentifier
theorem dX0_readIdentifier_0 : decode cX0_readIdentifier 0 = .ok (.iload_n 1, 1) := by decide +kernel
theorem dX0_readIdentifier_1 : decode cX0_readIdentifier 1 = .ok (.aload_n 0, 1) := by decide +kernel
theorem dX0_readIdentifier_2 : decode cX0_readIdentifier 2 = .ok (.getfield 15, 3) := by decide +kernel
theorem dX0_readIdentifier_5 : decode cX0_readIdentifier 5 = .ok (.if_icmp .lt 13, 3) := by decide +kernel
theorem dX0_readIdentifier_8 : decode cX0_readIdentifier 8 = .ok (.aload_n 0, 1) := by decide +kernel
theorem dX0_readIdentifier_9 : decode cX0_readIdentifier 9 = .ok (.iconst (-1), 1) := by decide +kernel
theorem dX0_readIdentifier_10 : decode cX0_readIdentifier 10 = .ok (.aload_n 0, 1) := by decide +kernel
theorem dX0_readIdentifier_11 : decode cX0_readIdentifier 11 = .ok (.getfield 15, 3) := by decide +kernel
theorem dX0_readIdentifier_14 : decode cX0_readIdentifier 14 = .ok (.invokevirtual 64, 3) := by decide +kernel
theorem dX0_readIdentifier_17 : decode cX0_readIdentifier 17 = .ok (.ireturn, 1) := by decide +kernel
theorem dX0_readIdentifier_18 : decode cX0_readIdentifier 18 = .ok (.aload_n 0, 1) := by decide +kernel
theorem dX0_readIdentifier_19 : decode cX0_readIdentifier 19 = .ok (.getfield 9, 3) := by decide +kernel
theorem dX0_readIdentifier_22 : decode cX0_readIdentifier 22 = .ok (.iload_n 1, 1) := by decide +kernel
theorem dX0_readIdentifier_23 : decode cX0_readIdentifier 23 = .ok (.iaload, 1) := by decide +kernel
theorem dX0_readIdentifier_24 : decode cX0_readIdentifier 24 = .ok (.invokestatic 77, 3) := by decide +kernel
theorem dX0_readIdentifier_27 : decode cX0_readIdentifier 27 = .ok (.ifCond .ne 11, 3) := by decide +kernel
theorem dX0_readIdentifier_30 : decode cX0_readIdentifier 30 = .ok (.aload_n 0, 1) := by decide +kernel
theorem dX0_readIdentifier_31 : decode cX0_readIdentifier 31 = .ok (.bipush (-2), 2) := by decide +kernel
theorem dX0_readIdentifier_33 : decode cX0_readIdentifier 33 = .ok (.iload_n 1, 1) := by decide +kernel
theorem dX0_readIdentifier_34 : decode cX0_readIdentifier 34 = .ok (.invokevirtual 64, 3) := by decide +kernel
theorem dX0_readIdentifier_37 : decode cX0_readIdentifier 37 = .ok (.ireturn, 1) := by decide +kernel
theorem dX0_readIdentifier_38 : decode cX0_readIdentifier 38 = .ok (.aload_n 0, 1) := by decide +kernel
theorem dX0_readIdentifier_39 : decode cX0_readIdentifier 39 = .ok (.getfield 31, 3) := by decide +kernel
theorem dX0_readIdentifier_42 : decode cX0_readIdentifier 42 = .ok (.bipush 64, 2) := by decide +kernel
theorem dX0_readIdentifier_44 : decode cX0_readIdentifier 44 = .ok (.if_icmp .ge 12, 3) := by decide +kernel
theorem dX0_readIdentifier_47 : decode cX0_readIdentifier 47 = .ok (.aload_n 0, 1) := by decide +kernel
theorem dX0_readIdentifier_48 : decode cX0_readIdentifier 48 = .ok (.getfield 37, 3) := by decide +kernel
theorem dX0_readIdentifier_51 : decode cX0_readIdentifier 51 = .ok (.bipush 16, 2) := by decide +kernel
theorem dX0_readIdentifier_53 : decode cX0_readIdentifier 53 = .ok (.if_icmp .lt 11, 3) := by decide +kernel
theorem dX0_readIdentifier_56 : decode cX0_readIdentifier 56 = .ok (.aload_n 0, 1) := by decide +kernel
theorem dX0_readIdentifier_57 : decode cX0_readIdentifier 57 = .ok (.bipush (-7), 2) := by decide +kernel
theorem dX0_readIdentifier_59 : decode cX0_readIdentifier 59 = .ok (.iload_n 1, 1) := by decide +kernel
theorem dX0_readIdentifier_60 : decode cX0_readIdentifier 60 = .ok (.invokevirtual 64, 3) := by decide +kernel
theorem dX0_readIdentifier_63 : decode cX0_readIdentifier 63 = .ok (.ireturn, 1) := by decide +kernel
theorem dX0_readIdentifier_64 : decode cX0_readIdentifier 64 = .ok (.aload_n 0, 1) := by decide +kernel
theorem dX0_readIdentifier_65 : decode cX0_readIdentifier 65 = .ok (.getfield 19, 3) := by decide +kernel
theorem dX0_readIdentifier_68 : decode cX0_readIdentifier 68 = .ok (.aload_n 0, 1) := by decide +kernel
theorem dX0_readIdentifier_69 : decode cX0_readIdentifier 69 = .ok (.getfield 31, 3) := by decide +kernel
theorem dX0_readIdentifier_72 : decode cX0_readIdentifier 72 = .ok (.aload_n 0, 1) := by decide +kernel
theorem dX0_readIdentifier_73 : decode cX0_readIdentifier 73 = .ok (.getfield 9, 3) := by decide +kernel
theorem dX0_readIdentifier_76 : decode cX0_readIdentifier 76 = .ok (.iload_n 1, 1) := by decide +kernel
theorem dX0_readIdentifier_77 : decode cX0_readIdentifier 77 = .ok (.iaload, 1) := by decide +kernel
theorem dX0_readIdentifier_78 : decode cX0_readIdentifier 78 = .ok (.iastore, 1) := by decide +kernel
theorem dX0_readIdentifier_79 : decode cX0_readIdentifier 79 = .ok (.aload_n 0, 1) := by decide +kernel
theorem dX0_readIdentifier_80 : decode cX0_readIdentifier 80 = .ok (.getfield 28, 3) := by decide +kernel
theorem dX0_readIdentifier_83 : decode cX0_readIdentifier 83 = .ok (.aload_n 0, 1) := by decide +kernel
theorem dX0_readIdentifier_84 : decode cX0_readIdentifier 84 = .ok (.getfield 31, 3) := by decide +kernel
theorem dX0_readIdentifier_87 : decode cX0_readIdentifier 87 = .ok (.aload_n 0, 1) := by decide +kernel
theorem dX0_readIdentifier_88 : decode cX0_readIdentifier 88 = .ok (.getfield 37, 3) := by decide +kernel
theorem dX0_readIdentifier_91 : decode cX0_readIdentifier 91 = .ok (.ifCond .ne 7, 3) := by decide +kernel
theorem dX0_readIdentifier_94 : decode cX0_readIdentifier 94 = .ok (.iconst (-1), 1) := by decide +kernel
theorem dX0_readIdentifier_95 : decode cX0_readIdentifier 95 = .ok (.goto 14, 3) := by decide +kernel
theorem dX0_readIdentifier_98 : decode cX0_readIdentifier 98 = .ok (.aload_n 0, 1) := by decide +kernel
theorem dX0_readIdentifier_99 : decode cX0_readIdentifier 99 = .ok (.getfield 34, 3) := by decide +kernel
theorem dX0_readIdentifier_102 : decode cX0_readIdentifier 102 = .ok (.aload_n 0, 1) := by decide +kernel
theorem dX0_readIdentifier_103 : decode cX0_readIdentifier 103 = .ok (.getfield 37, 3) := by decide +kernel
theorem dX0_readIdentifier_106 : decode cX0_readIdentifier 106 = .ok (.iconst 1, 1) := by decide +kernel
theorem dX0_readIdentifier_107 : decode cX0_readIdentifier 107 = .ok (.isub, 1) := by decide +kernel
theorem dX0_readIdentifier_108 : decode cX0_readIdentifier 108 = .ok (.iaload, 1) := by decide +kernel
theorem dX0_readIdentifier_109 : decode cX0_readIdentifier 109 = .ok (.iastore, 1) := by decide +kernel
theorem dX0_readIdentifier_110 : decode cX0_readIdentifier 110 = .ok (.iconst 0, 1) := by decide +kernel
theorem dX0_readIdentifier_111 : decode cX0_readIdentifier 111 = .ok (.ireturn, 1) := by decide +kernel
set_option maxRecDepth 20000 in
theorem ggX0_readLength_X0_limitHere : GoodIn wsX0_readLength wsX0_limitHere := goodIn_r _ [9, 10, 11, 12, 13, 14, 15, 8, 16, 2, 4, 34, 35, 36, 37, 38, 39, 40, 41, 42, 43] (by decide +kernel) (by decide +kernel)
set_option maxRecDepth 20000 in
theorem gX0_readLength_X0_limitHere : GoodIn wsX0_readLength (wsV RX0 80 RX0 yX0_limitHere wsX0_limitHere) := goodIn_app (goodIn_of _ (by decide +kernel)) ggX0_readLength_X0_limitHere
set_option maxRecDepth 20000 in
theorem ggX0_readLength_X0_offendByCutLength : GoodIn wsX0_readLength wsX0_offendByCutLength := goodIn_r _ [20, 10, 11, 21, 22, 23, 8, 24, 25, 34, 35, 36, 37, 38, 39, 40, 41, 42, 43] (by decide +kernel) (by decide +kernel)
set_option maxRecDepth 20000 in
theorem gX0_readLength_X0_offendByCutLength : GoodIn wsX0_readLength (wsV RX0 83 RX0 yX0_offendByCutLength wsX0_offendByCutLength) := goodIn_app (goodIn_of _ (by decide +kernel)) ggX0_readLength_X0_offendByCutLength
set_option maxRecDepth 20000 in
theorem ggX0_readLength_X0_offend : GoodIn wsX0_readLength wsX0_offend := goodIn_r _ [24, 25, 34, 35, 36, 37, 38, 39, 40, 41, 42, 43] (by decide +kernel) (by decide +kernel)
set_option maxRecDepth 20000 in
theorem gX0_readLength_X0_offend : GoodIn wsX0_readLength (wsV RX0 64 RX0 yX0_offend wsX0_offend) := goodIn_app (goodIn_of _ (by decide +kernel)) ggX0_readLength_X0_offend
set_option maxRecDepth 20000 in
theorem ggX0_readLength_X0_numberAt : GoodIn wsX0_readLength wsX0_numberAt := goodIn_r _ [29, 1, 34, 35, 36, 37, 38, 39, 40, 41, 42, 43] (by decide +kernel) (by decide +kernel)
set_option maxRecDepth 20000 in
theorem gX0_readLength_X0_numberAt : GoodIn wsX0_readLength (wsV RX0 86 RX0 yX0_numberAt wsX0_numberAt) := goodIn_app (goodIn_of _ (by decide +kernel)) ggX0_readLength_X0_numberAt
set_option maxRecDepth 20000 in
theorem ggX0_readLength_X1_lengthSize : GoodIn wsX0_readLength wsX1_lengthSize := goodIn_r _ [33] (by decide +kernel) (by decide +kernel)
set_option maxRecDepth 20000 in
theorem gX0_readLength_X1_lengthSize : GoodIn wsX0_readLength (va_wsS RX0 89 yX1_lengthSize wsX1_lengthSize) := goodIn_app (goodIn_of _ (by decide +kernel)) ggX0_readLength_X1_lengthSize
theorem dX0_readLength_0 : decode cX0_readLength 0 = .ok (.iload_n 1, 1) := by decide +kernel
theorem dX0_readLength_1 : decode cX0_readLength 1 = .ok (.iconst 1, 1) := by decide +kernel
theorem dX0_readLength_2 : decode cX0_readLength 2 = .ok (.iadd, 1) := by decide +kernel
theorem dX0_readLength_3 : decode cX0_readLength 3 = .ok (.istore_n 2, 1) := by decide +kernel
theorem dX0_readLength_4 : decode cX0_readLength 4 = .ok (.aload_n 0, 1) := by decide +kernel
theorem dX0_readLength_5 : decode cX0_readLength 5 = .ok (.invokevirtual 80, 3) := by decide +kernel
theorem dX0_readLength_8 : decode cX0_readLength 8 = .ok (.istore_n 3, 1) := by decide +kernel
theorem dX0_readLength_9 : decode cX0_readLength 9 = .ok (.iload_n 2, 1) := by decide +kernel
theorem dX0_readLength_10 : decode cX0_readLength 10 = .ok (.iload_n 3, 1) := by decide +kernel
theorem dX0_readLength_11 : decode cX0_readLength 11 = .ok (.if_icmp .lt 9, 3) := by decide +kernel
theorem dX0_readLength_14 : decode cX0_readLength 14 = .ok (.aload_n 0, 1) := by decide +kernel
theorem dX0_readLength_15 : decode cX0_readLength 15 = .ok (.iload_n 1, 1) := by decide +kernel
theorem dX0_readLength_16 : decode cX0_readLength 16 = .ok (.invokevirtual 83, 3) := by decide +kernel
theorem dX0_readLength_19 : decode cX0_readLength 19 = .ok (.ireturn, 1) := by decide +kernel
theorem dX0_readLength_20 : decode cX0_readLength 20 = .ok (.aload_n 0, 1) := by decide +kernel
theorem dX0_readLength_21 : decode cX0_readLength 21 = .ok (.getfield 9, 3) := by decide +kernel
theorem dX0_readLength_24 : decode cX0_readLength 24 = .ok (.iload_n 2, 1) := by decide +kernel
theorem dX0_readLength_25 : decode cX0_readLength 25 = .ok (.iaload, 1) := by decide +kernel
theorem dX0_readLength_26 : decode cX0_readLength 26 = .ok (.istore 4, 2) := by decide +kernel
theorem dX0_readLength_28 : decode cX0_readLength 28 = .ok (.iload 4, 2) := by decide +kernel
theorem dX0_readLength_30 : decode cX0_readLength 30 = .ok (.sipush 128, 3) := by decide +kernel
theorem dX0_readLength_33 : decode cX0_readLength 33 = .ok (.if_icmp .eq 11, 3) := by decide +kernel
theorem dX0_readLength_36 : decode cX0_readLength 36 = .ok (.iload 4, 2) := by decide +kernel
theorem dX0_readLength_38 : decode cX0_readLength 38 = .ok (.sipush 130, 3) := by decide +kernel
theorem dX0_readLength_41 : decode cX0_readLength 41 = .ok (.if_icmp .le 11, 3) := by decide +kernel
theorem dX0_readLength_44 : decode cX0_readLength 44 = .ok (.aload_n 0, 1) := by decide +kernel
theorem dX0_readLength_45 : decode cX0_readLength 45 = .ok (.bipush (-3), 2) := by decide +kernel
theorem dX0_readLength_47 : decode cX0_readLength 47 = .ok (.iload_n 2, 1) := by decide +kernel
theorem dX0_readLength_48 : decode cX0_readLength 48 = .ok (.invokevirtual 64, 3) := by decide +kernel
theorem dX0_readLength_51 : decode cX0_readLength 51 = .ok (.ireturn, 1) := by decide +kernel
theorem dX0_readLength_52 : decode cX0_readLength 52 = .ok (.iload 4, 2) := by decide +kernel
theorem dX0_readLength_54 : decode cX0_readLength 54 = .ok (.sipush 128, 3) := by decide +kernel
theorem dX0_readLength_57 : decode cX0_readLength 57 = .ok (.if_icmp .ge 7, 3) := by decide +kernel
theorem dX0_readLength_60 : decode cX0_readLength 60 = .ok (.iconst 0, 1) := by decide +kernel
theorem dX0_readLength_61 : decode cX0_readLength 61 = .ok (.goto 9, 3) := by decide +kernel
theorem dX0_readLength_64 : decode cX0_readLength 64 = .ok (.iload 4, 2) := by decide +kernel
theorem dX0_readLength_66 : decode cX0_readLength 66 = .ok (.sipush 128, 3) := by decide +kernel
theorem dX0_readLength_69 : decode cX0_readLength 69 = .ok (.isub, 1) := by decide +kernel
theorem dX0_readLength_70 : decode cX0_readLength 70 = .ok (.istore 5, 2) := by decide +kernel
theorem dX0_readLength_72 : decode cX0_readLength 72 = .ok (.iload_n 2, 1) := by decide +kernel
theorem dX0_readLength_73 : decode cX0_readLength 73 = .ok (.iload 5, 2) := by decide +kernel
theorem dX0_readLength_75 : decode cX0_readLength 75 = .ok (.iadd, 1) := by decide +kernel
theorem dX0_readLength_76 : decode cX0_readLength 76 = .ok (.iload_n 3, 1) := by decide +kernel
theorem dX0_readLength_77 : decode cX0_readLength 77 = .ok (.if_icmp .lt 9, 3) := by decide +kernel
theorem dX0_readLength_80 : decode cX0_readLength 80 = .ok (.aload_n 0, 1) := by decide +kernel
theorem dX0_readLength_81 : decode cX0_readLength 81 = .ok (.iload_n 1, 1) := by decide +kernel
theorem dX0_readLength_82 : decode cX0_readLength 82 = .ok (.invokevirtual 83, 3) := by decide +kernel
theorem dX0_readLength_85 : decode cX0_readLength 85 = .ok (.ireturn, 1) := by decide +kernel
theorem dX0_readLength_86 : decode cX0_readLength 86 = .ok (.iload 5, 2) := by decide +kernel
theorem dX0_readLength_88 : decode cX0_readLength 88 = .ok (.ifCond .ne 8, 3) := by decide +kernel
theorem dX0_readLength_91 : decode cX0_readLength 91 = .ok (.iload 4, 2) := by decide +kernel
theorem dX0_readLength_93 : decode cX0_readLength 93 = .ok (.goto 12, 3) := by decide +kernel
theorem dX0_readLength_96 : decode cX0_readLength 96 = .ok (.aload_n 0, 1) := by decide +kernel
theorem dX0_readLength_97 : decode cX0_readLength 97 = .ok (.iload_n 2, 1) := by decide +kernel
theorem dX0_readLength_98 : decode cX0_readLength 98 = .ok (.iconst 1, 1) := by decide +kernel
theorem dX0_readLength_99 : decode cX0_readLength 99 = .ok (.iadd, 1) := by decide +kernel
theorem dX0_readLength_100 : decode cX0_readLength 100 = .ok (.iload 5, 2) := by decide +kernel
theorem dX0_readLength_102 : decode cX0_readLength 102 = .ok (.invokevirtual 86, 3) := by decide +kernel
theorem dX0_readLength_105 : decode cX0_readLength 105 = .ok (.istore 6, 2) := by decide +kernel
theorem dX0_readLength_107 : decode cX0_readLength 107 = .ok (.iload 6, 2) := by decide +kernel
theorem dX0_readLength_109 : decode cX0_readLength 109 = .ok (.invokestatic 89, 3) := by decide +kernel
theorem dX0_readLength_112 : decode cX0_readLength 112 = .ok (.iconst 1, 1) := by decide +kernel
theorem dX0_readLength_113 : decode cX0_readLength 113 = .ok (.iload 5, 2) := by decide +kernel
theorem dX0_readLength_115 : decode cX0_readLength 115 = .ok (.iadd, 1) := by decide +kernel
theorem dX0_readLength_116 : decode cX0_readLength 116 = .ok (.if_icmp .eq 11, 3) := by decide +kernel
theorem dX0_readLength_119 : decode cX0_readLength 119 = .ok (.aload_n 0, 1) := by decide +kernel
theorem dX0_readLength_120 : decode cX0_readLength 120 = .ok (.bipush (-3), 2) := by decide +kernel
theorem dX0_readLength_122 : decode cX0_readLength 122 = .ok (.iload_n 2, 1) := by decide +kernel
theorem dX0_readLength_123 : decode cX0_readLength 123 = .ok (.invokevirtual 64, 3) := by decide +kernel
theorem dX0_readLength_126 : decode cX0_readLength 126 = .ok (.ireturn, 1) := by decide +kernel
theorem dX0_readLength_127 : decode cX0_readLength 127 = .ok (.aload_n 0, 1) := by decide +kernel
theorem dX0_readLength_128 : decode cX0_readLength 128 = .ok (.getfield 22, 3) := by decide +kernel
theorem dX0_readLength_131 : decode cX0_readLength 131 = .ok (.aload_n 0, 1) := by decide +kernel
theorem dX0_readLength_132 : decode cX0_readLength 132 = .ok (.getfield 31, 3) := by decide +kernel
theorem dX0_readLength_135 : decode cX0_readLength 135 = .ok (.iload_n 2, 1) := by decide +kernel
theorem dX0_readLength_136 : decode cX0_readLength 136 = .ok (.iload 5, 2) := by decide +kernel
theorem dX0_readLength_138 : decode cX0_readLength 138 = .ok (.iadd, 1) := by decide +kernel
theorem dX0_readLength_139 : decode cX0_readLength 139 = .ok (.iconst 1, 1) := by decide +kernel
theorem dX0_readLength_140 : decode cX0_readLength 140 = .ok (.iadd, 1) := by decide +kernel
theorem dX0_readLength_141 : decode cX0_readLength 141 = .ok (.iastore, 1) := by decide +kernel
theorem dX0_readLength_142 : decode cX0_readLength 142 = .ok (.aload_n 0, 1) := by decide +kernel
theorem dX0_readLength_143 : decode cX0_readLength 143 = .ok (.getfield 25, 3) := by decide +kernel
theorem dX0_readLength_146 : decode cX0_readLength 146 = .ok (.aload_n 0, 1) := by decide +kernel
theorem dX0_readLength_147 : decode cX0_readLength 147 = .ok (.getfield 31, 3) := by decide +kernel
theorem dX0_readLength_150 : decode cX0_readLength 150 = .ok (.iload 6, 2) := by decide +kernel
theorem dX0_readLength_152 : decode cX0_readLength 152 = .ok (.iastore, 1) := by decide +kernel
theorem dX0_readLength_153 : decode cX0_readLength 153 = .ok (.iconst 0, 1) := by decide +kernel
theorem dX0_readLength_154 : decode cX0_readLength 154 = .ok (.ireturn, 1) := by decide +kernel
set_option maxRecDepth 20000 in
theorem ggX0_checkContents_X0_limitHere : GoodIn wsX0_checkContents wsX0_limitHere := goodIn_r _ [10, 11, 12, 13, 14, 15, 16, 9, 17, 1, 3, 36, 37, 38, 39, 40, 41, 42, 43, 44, 45] (by decide +kernel) (by decide +kernel)
set_option maxRecDepth 20000 in
theorem gX0_checkContents_X0_limitHere : GoodIn wsX0_checkContents (wsV RX0 80 RX0 yX0_limitHere wsX0_limitHere) := goodIn_app (goodIn_of _ (by decide +kernel)) ggX0_checkContents_X0_limitHere
set_option maxRecDepth 20000 in
theorem ggX0_checkContents_X0_offend : GoodIn wsX0_checkContents wsX0_offend := goodIn_r _ [21, 22, 36, 37, 38, 39, 40, 41, 42, 43, 44, 45] (by decide +kernel) (by decide +kernel)
set_option maxRecDepth 20000 in
theorem gX0_checkContents_X0_offend : GoodIn wsX0_checkContents (wsV RX0 64 RX0 yX0_offend wsX0_offend) := goodIn_app (goodIn_of _ (by decide +kernel)) ggX0_checkContents_X0_offend
set_option maxRecDepth 20000 in
theorem ggX0_checkContents_X1_hold : GoodIn wsX0_checkContents wsX1_hold := goodIn_r _ [26, 27, 28, 25, 29, 30, 31, 32, 33, 34, 35] (by decide +kernel) (by decide +kernel)
set_option maxRecDepth 20000 in
theorem gX0_checkContents_X1_hold : GoodIn wsX0_checkContents (va_wsS RX0 92 yX1_hold wsX1_hold) := goodIn_app (goodIn_of _ (by decide +kernel)) ggX0_checkContents_X1_hold
theorem dX0_checkContents_0 : decode cX0_checkContents 0 = .ok (.aload_n 0, 1) := by decide +kernel
theorem dX0_checkContents_1 : decode cX0_checkContents 1 = .ok (.getfield 22, 3) := by decide +kernel
theorem dX0_checkContents_4 : decode cX0_checkContents 4 = .ok (.aload_n 0, 1) := by decide +kernel
theorem dX0_checkContents_5 : decode cX0_checkContents 5 = .ok (.getfield 31, 3) := by decide +kernel
theorem dX0_checkContents_8 : decode cX0_checkContents 8 = .ok (.iaload, 1) := by decide +kernel
theorem dX0_checkContents_9 : decode cX0_checkContents 9 = .ok (.istore_n 2, 1) := by decide +kernel
theorem dX0_checkContents_10 : decode cX0_checkContents 10 = .ok (.aload_n 0, 1) := by decide +kernel
theorem dX0_checkContents_11 : decode cX0_checkContents 11 = .ok (.getfield 25, 3) := by decide +kernel
theorem dX0_checkContents_14 : decode cX0_checkContents 14 = .ok (.aload_n 0, 1) := by decide +kernel
theorem dX0_checkContents_15 : decode cX0_checkContents 15 = .ok (.getfield 31, 3) := by decide +kernel
theorem dX0_checkContents_18 : decode cX0_checkContents 18 = .ok (.iaload, 1) := by decide +kernel
theorem dX0_checkContents_19 : decode cX0_checkContents 19 = .ok (.istore_n 3, 1) := by decide +kernel
theorem dX0_checkContents_20 : decode cX0_checkContents 20 = .ok (.iload_n 3, 1) := by decide +kernel
theorem dX0_checkContents_21 : decode cX0_checkContents 21 = .ok (.aload_n 0, 1) := by decide +kernel
theorem dX0_checkContents_22 : decode cX0_checkContents 22 = .ok (.invokevirtual 80, 3) := by decide +kernel
theorem dX0_checkContents_25 : decode cX0_checkContents 25 = .ok (.iload_n 2, 1) := by decide +kernel
theorem dX0_checkContents_26 : decode cX0_checkContents 26 = .ok (.isub, 1) := by decide +kernel
theorem dX0_checkContents_27 : decode cX0_checkContents 27 = .ok (.if_icmp .le 11, 3) := by decide +kernel
theorem dX0_checkContents_30 : decode cX0_checkContents 30 = .ok (.aload_n 0, 1) := by decide +kernel
theorem dX0_checkContents_31 : decode cX0_checkContents 31 = .ok (.bipush (-4), 2) := by decide +kernel
theorem dX0_checkContents_33 : decode cX0_checkContents 33 = .ok (.iload_n 1, 1) := by decide +kernel
theorem dX0_checkContents_34 : decode cX0_checkContents 34 = .ok (.invokevirtual 64, 3) := by decide +kernel
theorem dX0_checkContents_37 : decode cX0_checkContents 37 = .ok (.ireturn, 1) := by decide +kernel
theorem dX0_checkContents_38 : decode cX0_checkContents 38 = .ok (.aload_n 0, 1) := by decide +kernel
theorem dX0_checkContents_39 : decode cX0_checkContents 39 = .ok (.getfield 19, 3) := by decide +kernel
theorem dX0_checkContents_42 : decode cX0_checkContents 42 = .ok (.aload_n 0, 1) := by decide +kernel
theorem dX0_checkContents_43 : decode cX0_checkContents 43 = .ok (.getfield 31, 3) := by decide +kernel
theorem dX0_checkContents_46 : decode cX0_checkContents 46 = .ok (.iaload, 1) := by decide +kernel
theorem dX0_checkContents_47 : decode cX0_checkContents 47 = .ok (.aload_n 0, 1) := by decide +kernel
theorem dX0_checkContents_48 : decode cX0_checkContents 48 = .ok (.getfield 9, 3) := by decide +kernel
theorem dX0_checkContents_51 : decode cX0_checkContents 51 = .ok (.iload_n 2, 1) := by decide +kernel
theorem dX0_checkContents_52 : decode cX0_checkContents 52 = .ok (.iload_n 3, 1) := by decide +kernel
theorem dX0_checkContents_53 : decode cX0_checkContents 53 = .ok (.invokestatic 92, 3) := by decide +kernel
theorem dX0_checkContents_56 : decode cX0_checkContents 56 = .ok (.ifCond .eq 7, 3) := by decide +kernel
theorem dX0_checkContents_59 : decode cX0_checkContents 59 = .ok (.iconst 0, 1) := by decide +kernel
theorem dX0_checkContents_60 : decode cX0_checkContents 60 = .ok (.goto 10, 3) := by decide +kernel
theorem dX0_checkContents_63 : decode cX0_checkContents 63 = .ok (.aload_n 0, 1) := by decide +kernel
theorem dX0_checkContents_64 : decode cX0_checkContents 64 = .ok (.bipush (-5), 2) := by decide +kernel
theorem dX0_checkContents_66 : decode cX0_checkContents 66 = .ok (.iload_n 1, 1) := by decide +kernel
theorem dX0_checkContents_67 : decode cX0_checkContents 67 = .ok (.invokevirtual 64, 3) := by decide +kernel
theorem dX0_checkContents_70 : decode cX0_checkContents 70 = .ok (.ireturn, 1) := by decide +kernel
set_option maxRecDepth 20000 in
theorem ggX0_goOnFrom_X0_endOf : GoodIn wsX0_goOnFrom wsX0_endOf := goodIn_r _ [9, 4, 10, 11, 12, 13, 14, 15, 16, 17, 18, 19, 20] (by decide +kernel) (by decide +kernel)
set_option maxRecDepth 20000 in
theorem gX0_goOnFrom_X0_endOf : GoodIn wsX0_goOnFrom (wsV RX0 96 RX0 yX0_endOf wsX0_endOf) := goodIn_app (goodIn_of _ (by decide +kernel)) ggX0_goOnFrom_X0_endOf
theorem dX0_goOnFrom_0 : decode cX0_goOnFrom 0 = .ok (.aload_n 0, 1) := by decide +kernel
theorem dX0_goOnFrom_1 : decode cX0_goOnFrom 1 = .ok (.getfield 19, 3) := by decide +kernel
theorem dX0_goOnFrom_4 : decode cX0_goOnFrom 4 = .ok (.iload_n 1, 1) := by decide +kernel
theorem dX0_goOnFrom_5 : decode cX0_goOnFrom 5 = .ok (.iaload, 1) := by decide +kernel
theorem dX0_goOnFrom_6 : decode cX0_goOnFrom 6 = .ok (.bipush 48, 2) := by decide +kernel
theorem dX0_goOnFrom_8 : decode cX0_goOnFrom 8 = .ok (.if_icmp .eq 9, 3) := by decide +kernel
theorem dX0_goOnFrom_11 : decode cX0_goOnFrom 11 = .ok (.aload_n 0, 1) := by decide +kernel
theorem dX0_goOnFrom_12 : decode cX0_goOnFrom 12 = .ok (.iload_n 1, 1) := by decide +kernel
theorem dX0_goOnFrom_13 : decode cX0_goOnFrom 13 = .ok (.invokevirtual 96, 3) := by decide +kernel
theorem dX0_goOnFrom_16 : decode cX0_goOnFrom 16 = .ok (.ireturn, 1) := by decide +kernel
theorem dX0_goOnFrom_17 : decode cX0_goOnFrom 17 = .ok (.aload_n 0, 1) := by decide +kernel
theorem dX0_goOnFrom_18 : decode cX0_goOnFrom 18 = .ok (.getfield 34, 3) := by decide +kernel
theorem dX0_goOnFrom_21 : decode cX0_goOnFrom 21 = .ok (.aload_n 0, 1) := by decide +kernel
theorem dX0_goOnFrom_22 : decode cX0_goOnFrom 22 = .ok (.getfield 37, 3) := by decide +kernel
theorem dX0_goOnFrom_25 : decode cX0_goOnFrom 25 = .ok (.iload_n 1, 1) := by decide +kernel
theorem dX0_goOnFrom_26 : decode cX0_goOnFrom 26 = .ok (.iastore, 1) := by decide +kernel
theorem dX0_goOnFrom_27 : decode cX0_goOnFrom 27 = .ok (.aload_n 0, 1) := by decide +kernel
theorem dX0_goOnFrom_28 : decode cX0_goOnFrom 28 = .ok (.dup, 1) := by decide +kernel
theorem dX0_goOnFrom_29 : decode cX0_goOnFrom 29 = .ok (.getfield 37, 3) := by decide +kernel
theorem dX0_goOnFrom_32 : decode cX0_goOnFrom 32 = .ok (.iconst 1, 1) := by decide +kernel
theorem dX0_goOnFrom_33 : decode cX0_goOnFrom 33 = .ok (.iadd, 1) := by decide +kernel
theorem dX0_goOnFrom_34 : decode cX0_goOnFrom 34 = .ok (.putfield 37, 3) := by decide +kernel
theorem dX0_goOnFrom_37 : decode cX0_goOnFrom 37 = .ok (.aload_n 0, 1) := by decide +kernel
theorem dX0_goOnFrom_38 : decode cX0_goOnFrom 38 = .ok (.getfield 22, 3) := by decide +kernel
theorem dX0_goOnFrom_41 : decode cX0_goOnFrom 41 = .ok (.iload_n 1, 1) := by decide +kernel
theorem dX0_goOnFrom_42 : decode cX0_goOnFrom 42 = .ok (.iaload, 1) := by decide +kernel
theorem dX0_goOnFrom_43 : decode cX0_goOnFrom 43 = .ok (.ireturn, 1) := by decide +kernel
set_option maxRecDepth 20000 in
theorem ggX0_leaveSequencesThatEndAt_X0_endOf : GoodIn wsX0_leaveSequencesThatEndAt wsX0_endOf := goodIn_r _ [7, 8, 9, 10, 11, 12, 13, 14, 15, 16, 17, 18, 19] (by decide +kernel) (by decide +kernel)
set_option maxRecDepth 20000 in
theorem gX0_leaveSequencesThatEndAt_X0_endOf : GoodIn wsX0_leaveSequencesThatEndAt (wsV RX0 96 RX0 yX0_endOf wsX0_endOf) := goodIn_app (goodIn_of _ (by decide +kernel)) ggX0_leaveSequencesThatEndAt_X0_endOf
theorem dX0_leaveSequencesThatEndAt_0 : decode cX0_leaveSequencesThatEndAt 0 = .ok (.aload_n 0, 1) := by decide +kernel
theorem dX0_leaveSequencesThatEndAt_1 : decode cX0_leaveSequencesThatEndAt 1 = .ok (.getfield 37, 3) := by decide +kernel
theorem dX0_leaveSequencesThatEndAt_4 : decode cX0_leaveSequencesThatEndAt 4 = .ok (.ifCond .le 35, 3) := by decide +kernel
theorem dX0_leaveSequencesThatEndAt_7 : decode cX0_leaveSequencesThatEndAt 7 = .ok (.aload_n 0, 1) := by decide +kernel
theorem dX0_leaveSequencesThatEndAt_8 : decode cX0_leaveSequencesThatEndAt 8 = .ok (.aload_n 0, 1) := by decide +kernel
theorem dX0_leaveSequencesThatEndAt_9 : decode cX0_leaveSequencesThatEndAt 9 = .ok (.getfield 34, 3) := by decide +kernel
theorem dX0_leaveSequencesThatEndAt_12 : decode cX0_leaveSequencesThatEndAt 12 = .ok (.aload_n 0, 1) := by decide +kernel
theorem dX0_leaveSequencesThatEndAt_13 : decode cX0_leaveSequencesThatEndAt 13 = .ok (.getfield 37, 3) := by decide +kernel
theorem dX0_leaveSequencesThatEndAt_16 : decode cX0_leaveSequencesThatEndAt 16 = .ok (.iconst 1, 1) := by decide +kernel
theorem dX0_leaveSequencesThatEndAt_17 : decode cX0_leaveSequencesThatEndAt 17 = .ok (.isub, 1) := by decide +kernel
theorem dX0_leaveSequencesThatEndAt_18 : decode cX0_leaveSequencesThatEndAt 18 = .ok (.iaload, 1) := by decide +kernel
theorem dX0_leaveSequencesThatEndAt_19 : decode cX0_leaveSequencesThatEndAt 19 = .ok (.invokevirtual 96, 3) := by decide +kernel
theorem dX0_leaveSequencesThatEndAt_22 : decode cX0_leaveSequencesThatEndAt 22 = .ok (.iload_n 1, 1) := by decide +kernel
theorem dX0_leaveSequencesThatEndAt_23 : decode cX0_leaveSequencesThatEndAt 23 = .ok (.if_icmp .ne 16, 3) := by decide +kernel
theorem dX0_leaveSequencesThatEndAt_26 : decode cX0_leaveSequencesThatEndAt 26 = .ok (.aload_n 0, 1) := by decide +kernel
theorem dX0_leaveSequencesThatEndAt_27 : decode cX0_leaveSequencesThatEndAt 27 = .ok (.dup, 1) := by decide +kernel
theorem dX0_leaveSequencesThatEndAt_28 : decode cX0_leaveSequencesThatEndAt 28 = .ok (.getfield 37, 3) := by decide +kernel
theorem dX0_leaveSequencesThatEndAt_31 : decode cX0_leaveSequencesThatEndAt 31 = .ok (.iconst 1, 1) := by decide +kernel
theorem dX0_leaveSequencesThatEndAt_32 : decode cX0_leaveSequencesThatEndAt 32 = .ok (.isub, 1) := by decide +kernel
theorem dX0_leaveSequencesThatEndAt_33 : decode cX0_leaveSequencesThatEndAt 33 = .ok (.putfield 37, 3) := by decide +kernel
theorem dX0_leaveSequencesThatEndAt_36 : decode cX0_leaveSequencesThatEndAt 36 = .ok (.goto (-36), 3) := by decide +kernel
theorem dX0_leaveSequencesThatEndAt_39 : decode cX0_leaveSequencesThatEndAt 39 = .ok (.return_, 1) := by decide +kernel
set_option maxRecDepth 20000 in
theorem ggX0_limitHere_X0_endOf : GoodIn wsX0_limitHere wsX0_endOf := goodIn_r _ [8, 9, 10, 11, 12, 13, 14, 15, 16, 17, 18, 19, 20] (by decide +kernel) (by decide +kernel)
set_option maxRecDepth 20000 in
theorem gX0_limitHere_X0_endOf : GoodIn wsX0_limitHere (wsV RX0 96 RX0 yX0_endOf wsX0_endOf) := goodIn_app (goodIn_of _ (by decide +kernel)) ggX0_limitHere_X0_endOf
theorem dX0_limitHere_0 : decode cX0_limitHere 0 = .ok (.aload_n 0, 1) := by decide +kernel
theorem dX0_limitHere_1 : decode cX0_limitHere 1 = .ok (.getfield 37, 3) := by decide +kernel
theorem dX0_limitHere_4 : decode cX0_limitHere 4 = .ok (.ifCond .ne 10, 3) := by decide +kernel
theorem dX0_limitHere_7 : decode cX0_limitHere 7 = .ok (.aload_n 0, 1) := by decide +kernel
theorem dX0_limitHere_8 : decode cX0_limitHere 8 = .ok (.getfield 15, 3) := by decide +kernel
theorem dX0_limitHere_11 : decode cX0_limitHere 11 = .ok (.goto 18, 3) := by decide +kernel
theorem dX0_limitHere_14 : decode cX0_limitHere 14 = .ok (.aload_n 0, 1) := by decide +kernel
theorem dX0_limitHere_15 : decode cX0_limitHere 15 = .ok (.aload_n 0, 1) := by decide +kernel
theorem dX0_limitHere_16 : decode cX0_limitHere 16 = .ok (.getfield 34, 3) := by decide +kernel
theorem dX0_limitHere_19 : decode cX0_limitHere 19 = .ok (.aload_n 0, 1) := by decide +kernel
theorem dX0_limitHere_20 : decode cX0_limitHere 20 = .ok (.getfield 37, 3) := by decide +kernel
theorem dX0_limitHere_23 : decode cX0_limitHere 23 = .ok (.iconst 1, 1) := by decide +kernel
theorem dX0_limitHere_24 : decode cX0_limitHere 24 = .ok (.isub, 1) := by decide +kernel
theorem dX0_limitHere_25 : decode cX0_limitHere 25 = .ok (.iaload, 1) := by decide +kernel
theorem dX0_limitHere_26 : decode cX0_limitHere 26 = .ok (.invokevirtual 96, 3) := by decide +kernel
theorem dX0_limitHere_29 : decode cX0_limitHere 29 = .ok (.ireturn, 1) := by decide +kernel
theorem dX0_endOf_0 : decode cX0_endOf 0 = .ok (.aload_n 0, 1) := by decide +kernel
theorem dX0_endOf_1 : decode cX0_endOf 1 = .ok (.getfield 22, 3) := by decide +kernel
theorem dX0_endOf_4 : decode cX0_endOf 4 = .ok (.iload_n 1, 1) := by decide +kernel
theorem dX0_endOf_5 : decode cX0_endOf 5 = .ok (.iaload, 1) := by decide +kernel
theorem dX0_endOf_6 : decode cX0_endOf 6 = .ok (.aload_n 0, 1) := by decide +kernel
theorem dX0_endOf_7 : decode cX0_endOf 7 = .ok (.getfield 25, 3) := by decide +kernel
theorem dX0_endOf_10 : decode cX0_endOf 10 = .ok (.iload_n 1, 1) := by decide +kernel
theorem dX0_endOf_11 : decode cX0_endOf 11 = .ok (.iaload, 1) := by decide +kernel
theorem dX0_endOf_12 : decode cX0_endOf 12 = .ok (.iadd, 1) := by decide +kernel
theorem dX0_endOf_13 : decode cX0_endOf 13 = .ok (.ireturn, 1) := by decide +kernel
theorem dX0_numberAt_0 : decode cX0_numberAt 0 = .ok (.iconst 0, 1) := by decide +kernel
theorem dX0_numberAt_1 : decode cX0_numberAt 1 = .ok (.istore_n 3, 1) := by decide +kernel
theorem dX0_numberAt_2 : decode cX0_numberAt 2 = .ok (.iconst 0, 1) := by decide +kernel
theorem dX0_numberAt_3 : decode cX0_numberAt 3 = .ok (.istore 4, 2) := by decide +kernel
theorem dX0_numberAt_5 : decode cX0_numberAt 5 = .ok (.iload 4, 2) := by decide +kernel
theorem dX0_numberAt_7 : decode cX0_numberAt 7 = .ok (.iload_n 2, 1) := by decide +kernel
theorem dX0_numberAt_8 : decode cX0_numberAt 8 = .ok (.if_icmp .ge 24, 3) := by decide +kernel
theorem dX0_numberAt_11 : decode cX0_numberAt 11 = .ok (.iload_n 3, 1) := by decide +kernel
theorem dX0_numberAt_12 : decode cX0_numberAt 12 = .ok (.bipush 8, 2) := by decide +kernel
theorem dX0_numberAt_14 : decode cX0_numberAt 14 = .ok (.ishl, 1) := by decide +kernel
theorem dX0_numberAt_15 : decode cX0_numberAt 15 = .ok (.aload_n 0, 1) := by decide +kernel
theorem dX0_numberAt_16 : decode cX0_numberAt 16 = .ok (.getfield 9, 3) := by decide +kernel
theorem dX0_numberAt_19 : decode cX0_numberAt 19 = .ok (.iload_n 1, 1) := by decide +kernel
theorem dX0_numberAt_20 : decode cX0_numberAt 20 = .ok (.iload 4, 2) := by decide +kernel
theorem dX0_numberAt_22 : decode cX0_numberAt 22 = .ok (.iadd, 1) := by decide +kernel
theorem dX0_numberAt_23 : decode cX0_numberAt 23 = .ok (.iaload, 1) := by decide +kernel
theorem dX0_numberAt_24 : decode cX0_numberAt 24 = .ok (.ior, 1) := by decide +kernel
theorem dX0_numberAt_25 : decode cX0_numberAt 25 = .ok (.istore_n 3, 1) := by decide +kernel
theorem dX0_numberAt_26 : decode cX0_numberAt 26 = .ok (.iinc 4 1, 3) := by decide +kernel
theorem dX0_numberAt_29 : decode cX0_numberAt 29 = .ok (.goto (-24), 3) := by decide +kernel
theorem dX0_numberAt_32 : decode cX0_numberAt 32 = .ok (.iload_n 3, 1) := by decide +kernel
theorem dX0_numberAt_33 : decode cX0_numberAt 33 = .ok (.ireturn, 1) := by decide +kernel
set_option maxRecDepth 20000 in
theorem ggX0_offendByCutLength_X0_offend : GoodIn wsX0_offendByCutLength wsX0_offend := goodIn_r _ [7, 8, 9, 10, 11, 12, 13, 14, 15, 16, 17, 18] (by decide +kernel) (by decide +kernel)
set_option maxRecDepth 20000 in
theorem gX0_offendByCutLength_X0_offend : GoodIn wsX0_offendByCutLength (wsV RX0 64 RX0 yX0_offend wsX0_offend) := goodIn_app (goodIn_of _ (by decide +kernel)) ggX0_offendByCutLength_X0_offend
theorem dX0_offendByCutLength_0 : decode cX0_offendByCutLength 0 = .ok (.aload_n 0, 1) := by decide +kernel
theorem dX0_offendByCutLength_1 : decode cX0_offendByCutLength 1 = .ok (.getfield 37, 3) := by decide +kernel
theorem dX0_offendByCutLength_4 : decode cX0_offendByCutLength 4 = .ok (.ifCond .ne 15, 3) := by decide +kernel
theorem dX0_offendByCutLength_7 : decode cX0_offendByCutLength 7 = .ok (.aload_n 0, 1) := by decide +kernel
theorem dX0_offendByCutLength_8 : decode cX0_offendByCutLength 8 = .ok (.iconst (-1), 1) := by decide +kernel
theorem dX0_offendByCutLength_9 : decode cX0_offendByCutLength 9 = .ok (.aload_n 0, 1) := by decide +kernel
theorem dX0_offendByCutLength_10 : decode cX0_offendByCutLength 10 = .ok (.getfield 15, 3) := by decide +kernel
theorem dX0_offendByCutLength_13 : decode cX0_offendByCutLength 13 = .ok (.invokevirtual 64, 3) := by decide +kernel
theorem dX0_offendByCutLength_16 : decode cX0_offendByCutLength 16 = .ok (.goto 10, 3) := by decide +kernel
theorem dX0_offendByCutLength_19 : decode cX0_offendByCutLength 19 = .ok (.aload_n 0, 1) := by decide +kernel
theorem dX0_offendByCutLength_20 : decode cX0_offendByCutLength 20 = .ok (.bipush (-4), 2) := by decide +kernel
theorem dX0_offendByCutLength_22 : decode cX0_offendByCutLength 22 = .ok (.iload_n 1, 1) := by decide +kernel
theorem dX0_offendByCutLength_23 : decode cX0_offendByCutLength 23 = .ok (.invokevirtual 64, 3) := by decide +kernel
theorem dX0_offendByCutLength_26 : decode cX0_offendByCutLength 26 = .ok (.ireturn, 1) := by decide +kernel
theorem dX0_offend_0 : decode cX0_offend 0 = .ok (.aload_n 0, 1) := by decide +kernel
theorem dX0_offend_1 : decode cX0_offend 1 = .ok (.iload_n 2, 1) := by decide +kernel
theorem dX0_offend_2 : decode cX0_offend 2 = .ok (.putfield 40, 3) := by decide +kernel
theorem dX0_offend_5 : decode cX0_offend 5 = .ok (.iload_n 1, 1) := by decide +kernel
theorem dX0_offend_6 : decode cX0_offend 6 = .ok (.ireturn, 1) := by decide +kernel
theorem dX0_isNode_0 : decode cX0_isNode 0 = .ok (.iload_n 1, 1) := by decide +kernel
theorem dX0_isNode_1 : decode cX0_isNode 1 = .ok (.ifCond .lt 15, 3) := by decide +kernel
theorem dX0_isNode_4 : decode cX0_isNode 4 = .ok (.iload_n 1, 1) := by decide +kernel
theorem dX0_isNode_5 : decode cX0_isNode 5 = .ok (.aload_n 0, 1) := by decide +kernel
theorem dX0_isNode_6 : decode cX0_isNode 6 = .ok (.getfield 31, 3) := by decide +kernel
theorem dX0_isNode_9 : decode cX0_isNode 9 = .ok (.if_icmp .ge 7, 3) := by decide +kernel
theorem dX0_isNode_12 : decode cX0_isNode 12 = .ok (.iconst 1, 1) := by decide +kernel
theorem dX0_isNode_13 : decode cX0_isNode 13 = .ok (.goto 4, 3) := by decide +kernel
theorem dX0_isNode_16 : decode cX0_isNode 16 = .ok (.iconst 0, 1) := by decide +kernel
theorem dX0_isNode_17 : decode cX0_isNode 17 = .ok (.ireturn, 1) := by decide +kernel
set_option maxRecDepth 20000 in
theorem ggX0_ofNode_X0_isNode : GoodIn wsX0_ofNode wsX0_isNode := goodIn_r _ [5, 6, 7, 8, 9, 10, 11, 12, 13, 14, 15, 16] (by decide +kernel) (by decide +kernel)
set_option maxRecDepth 20000 in
theorem gX0_ofNode_X0_isNode : GoodIn wsX0_ofNode (wsV RX0 99 RX0 yX0_isNode wsX0_isNode) := goodIn_app (goodIn_of _ (by decide +kernel)) ggX0_ofNode_X0_isNode
theorem dX0_ofNode_0 : decode cX0_ofNode 0 = .ok (.aload_n 0, 1) := by decide +kernel
theorem dX0_ofNode_1 : decode cX0_ofNode 1 = .ok (.iload_n 2, 1) := by decide +kernel
theorem dX0_ofNode_2 : decode cX0_ofNode 2 = .ok (.invokevirtual 99, 3) := by decide +kernel
theorem dX0_ofNode_5 : decode cX0_ofNode 5 = .ok (.ifCond .eq 9, 3) := by decide +kernel
theorem dX0_ofNode_8 : decode cX0_ofNode 8 = .ok (.aload_n 1, 1) := by decide +kernel
theorem dX0_ofNode_9 : decode cX0_ofNode 9 = .ok (.iload_n 2, 1) := by decide +kernel
theorem dX0_ofNode_10 : decode cX0_ofNode 10 = .ok (.iaload, 1) := by decide +kernel
theorem dX0_ofNode_11 : decode cX0_ofNode 11 = .ok (.goto 4, 3) := by decide +kernel
theorem dX0_ofNode_14 : decode cX0_ofNode 14 = .ok (.iconst (-1), 1) := by decide +kernel
theorem dX0_ofNode_15 : decode cX0_ofNode 15 = .ok (.ireturn, 1) := by decide +kernel
set_option maxRecDepth 20000 in
theorem ggX0_isSmallInteger_X0_isNode : GoodIn wsX0_isSmallInteger wsX0_isNode := goodIn_r _ [7, 8, 9, 10, 11, 12, 13, 14, 15, 16, 17, 18] (by decide +kernel) (by decide +kernel)
set_option maxRecDepth 20000 in
theorem gX0_isSmallInteger_X0_isNode : GoodIn wsX0_isSmallInteger (wsV RX0 99 RX0 yX0_isNode wsX0_isNode) := goodIn_app (goodIn_of _ (by decide +kernel)) ggX0_isSmallInteger_X0_isNode
theorem dX0_isSmallInteger_0 : decode cX0_isSmallInteger 0 = .ok (.aload_n 0, 1) := by decide +kernel
theorem dX0_isSmallInteger_1 : decode cX0_isSmallInteger 1 = .ok (.iload_n 1, 1) := by decide +kernel
theorem dX0_isSmallInteger_2 : decode cX0_isSmallInteger 2 = .ok (.invokevirtual 99, 3) := by decide +kernel
theorem dX0_isSmallInteger_5 : decode cX0_isSmallInteger 5 = .ok (.ifCond .eq 27, 3) := by decide +kernel
theorem dX0_isSmallInteger_8 : decode cX0_isSmallInteger 8 = .ok (.aload_n 0, 1) := by decide +kernel
theorem dX0_isSmallInteger_9 : decode cX0_isSmallInteger 9 = .ok (.getfield 19, 3) := by decide +kernel
theorem dX0_isSmallInteger_12 : decode cX0_isSmallInteger 12 = .ok (.iload_n 1, 1) := by decide +kernel
theorem dX0_isSmallInteger_13 : decode cX0_isSmallInteger 13 = .ok (.iaload, 1) := by decide +kernel
theorem dX0_isSmallInteger_14 : decode cX0_isSmallInteger 14 = .ok (.iconst 2, 1) := by decide +kernel
theorem dX0_isSmallInteger_15 : decode cX0_isSmallInteger 15 = .ok (.if_icmp .ne 17, 3) := by decide +kernel
theorem dX0_isSmallInteger_18 : decode cX0_isSmallInteger 18 = .ok (.aload_n 0, 1) := by decide +kernel
theorem dX0_isSmallInteger_19 : decode cX0_isSmallInteger 19 = .ok (.getfield 25, 3) := by decide +kernel
theorem dX0_isSmallInteger_22 : decode cX0_isSmallInteger 22 = .ok (.iload_n 1, 1) := by decide +kernel
theorem dX0_isSmallInteger_23 : decode cX0_isSmallInteger 23 = .ok (.iaload, 1) := by decide +kernel
theorem dX0_isSmallInteger_24 : decode cX0_isSmallInteger 24 = .ok (.iconst 4, 1) := by decide +kernel
theorem dX0_isSmallInteger_25 : decode cX0_isSmallInteger 25 = .ok (.if_icmp .gt 7, 3) := by decide +kernel
theorem dX0_isSmallInteger_28 : decode cX0_isSmallInteger 28 = .ok (.iconst 1, 1) := by decide +kernel
theorem dX0_isSmallInteger_29 : decode cX0_isSmallInteger 29 = .ok (.goto 4, 3) := by decide +kernel
theorem dX0_isSmallInteger_32 : decode cX0_isSmallInteger 32 = .ok (.iconst 0, 1) := by decide +kernel
theorem dX0_isSmallInteger_33 : decode cX0_isSmallInteger 33 = .ok (.ireturn, 1) := by decide +kernel
set_option maxRecDepth 20000 in
theorem ggX0_smallInteger_X0_isSmallInteger : GoodIn wsX0_smallInteger wsX0_isSmallInteger := goodIn_r _ [7, 8, 1, 9, 10, 11, 6, 12, 13, 19, 20, 21, 22, 23, 24, 25, 26, 27, 28] (by decide +kernel) (by decide +kernel)
set_option maxRecDepth 20000 in
theorem gX0_smallInteger_X0_isSmallInteger : GoodIn wsX0_smallInteger (wsV RX0 102 RX0 yX0_isSmallInteger wsX0_isSmallInteger) := goodIn_app (goodIn_of _ (by decide +kernel)) ggX0_smallInteger_X0_isSmallInteger
set_option maxRecDepth 20000 in
theorem ggX0_smallInteger_X0_numberAt : GoodIn wsX0_smallInteger wsX0_numberAt := goodIn_r _ [17, 18, 19, 20, 21, 22, 23, 24, 25, 26, 27, 28] (by decide +kernel) (by decide +kernel)
set_option maxRecDepth 20000 in
theorem gX0_smallInteger_X0_numberAt : GoodIn wsX0_smallInteger (wsV RX0 86 RX0 yX0_numberAt wsX0_numberAt) := goodIn_app (goodIn_of _ (by decide +kernel)) ggX0_smallInteger_X0_numberAt
theorem dX0_smallInteger_0 : decode cX0_smallInteger 0 = .ok (.aload_n 0, 1) := by decide +kernel
theorem dX0_smallInteger_1 : decode cX0_smallInteger 1 = .ok (.iload_n 1, 1) := by decide +kernel
theorem dX0_smallInteger_2 : decode cX0_smallInteger 2 = .ok (.invokevirtual 102, 3) := by decide +kernel
theorem dX0_smallInteger_5 : decode cX0_smallInteger 5 = .ok (.ifCond .ne 5, 3) := by decide +kernel
theorem dX0_smallInteger_8 : decode cX0_smallInteger 8 = .ok (.iconst 0, 1) := by decide +kernel
theorem dX0_smallInteger_9 : decode cX0_smallInteger 9 = .ok (.ireturn, 1) := by decide +kernel
theorem dX0_smallInteger_10 : decode cX0_smallInteger 10 = .ok (.bipush 32, 2) := by decide +kernel
theorem dX0_smallInteger_12 : decode cX0_smallInteger 12 = .ok (.bipush 8, 2) := by decide +kernel
theorem dX0_smallInteger_14 : decode cX0_smallInteger 14 = .ok (.aload_n 0, 1) := by decide +kernel
theorem dX0_smallInteger_15 : decode cX0_smallInteger 15 = .ok (.getfield 25, 3) := by decide +kernel
theorem dX0_smallInteger_18 : decode cX0_smallInteger 18 = .ok (.iload_n 1, 1) := by decide +kernel
theorem dX0_smallInteger_19 : decode cX0_smallInteger 19 = .ok (.iaload, 1) := by decide +kernel
theorem dX0_smallInteger_20 : decode cX0_smallInteger 20 = .ok (.imul, 1) := by decide +kernel
theorem dX0_smallInteger_21 : decode cX0_smallInteger 21 = .ok (.isub, 1) := by decide +kernel
theorem dX0_smallInteger_22 : decode cX0_smallInteger 22 = .ok (.istore_n 2, 1) := by decide +kernel
theorem dX0_smallInteger_23 : decode cX0_smallInteger 23 = .ok (.aload_n 0, 1) := by decide +kernel
theorem dX0_smallInteger_24 : decode cX0_smallInteger 24 = .ok (.aload_n 0, 1) := by decide +kernel
theorem dX0_smallInteger_25 : decode cX0_smallInteger 25 = .ok (.getfield 22, 3) := by decide +kernel
theorem dX0_smallInteger_28 : decode cX0_smallInteger 28 = .ok (.iload_n 1, 1) := by decide +kernel
theorem dX0_smallInteger_29 : decode cX0_smallInteger 29 = .ok (.iaload, 1) := by decide +kernel
theorem dX0_smallInteger_30 : decode cX0_smallInteger 30 = .ok (.aload_n 0, 1) := by decide +kernel
theorem dX0_smallInteger_31 : decode cX0_smallInteger 31 = .ok (.getfield 25, 3) := by decide +kernel
theorem dX0_smallInteger_34 : decode cX0_smallInteger 34 = .ok (.iload_n 1, 1) := by decide +kernel
theorem dX0_smallInteger_35 : decode cX0_smallInteger 35 = .ok (.iaload, 1) := by decide +kernel
theorem dX0_smallInteger_36 : decode cX0_smallInteger 36 = .ok (.invokevirtual 86, 3) := by decide +kernel
theorem dX0_smallInteger_39 : decode cX0_smallInteger 39 = .ok (.iload_n 2, 1) := by decide +kernel
theorem dX0_smallInteger_40 : decode cX0_smallInteger 40 = .ok (.ishl, 1) := by decide +kernel
theorem dX0_smallInteger_41 : decode cX0_smallInteger 41 = .ok (.iload_n 2, 1) := by decide +kernel
theorem dX0_smallInteger_42 : decode cX0_smallInteger 42 = .ok (.ishr, 1) := by decide +kernel
theorem dX0_smallInteger_43 : decode cX0_smallInteger 43 = .ok (.ireturn, 1) := by decide +kernel
set_option maxRecDepth 20000 in
theorem ggX0_arcOf_X0_isNode : GoodIn wsX0_arcOf wsX0_isNode := goodIn_r _ [7, 8, 31, 32, 33, 34, 35, 36, 37, 38, 39, 40] (by decide +kernel) (by decide +kernel)
set_option maxRecDepth 20000 in
theorem gX0_arcOf_X0_isNode : GoodIn wsX0_arcOf (wsV RX0 99 RX0 yX0_isNode wsX0_isNode) := goodIn_app (goodIn_of _ (by decide +kernel)) ggX0_arcOf_X0_isNode
set_option maxRecDepth 20000 in
theorem ggX0_arcOf_X0_partOf : GoodIn wsX0_arcOf wsX0_partOf := goodIn_r _ [12, 13, 14, 15, 16, 17, 18, 19, 20, 21, 22, 23, 6, 24, 25, 31, 32, 33, 34, 35, 36, 37, 38, 39, 40] (by decide +kernel) (by decide +kernel)
set_option maxRecDepth 20000 in
theorem gX0_arcOf_X0_partOf : GoodIn wsX0_arcOf (wsV RX0 105 RX0 yX0_partOf wsX0_partOf) := goodIn_app (goodIn_of _ (by decide +kernel)) ggX0_arcOf_X0_partOf
set_option maxRecDepth 20000 in
theorem ggX0_arcOf_X0_firstArcOf : GoodIn wsX0_arcOf wsX0_firstArcOf := goodIn_r _ [28, 29, 30] (by decide +kernel) (by decide +kernel)
set_option maxRecDepth 20000 in
theorem gX0_arcOf_X0_firstArcOf : GoodIn wsX0_arcOf (va_wsS RX0 109 yX0_firstArcOf wsX0_firstArcOf) := goodIn_app (goodIn_of _ (by decide +kernel)) ggX0_arcOf_X0_firstArcOf
theorem dX0_arcOf_0 : decode cX0_arcOf 0 = .ok (.aload_n 0, 1) := by decide +kernel
theorem dX0_arcOf_1 : decode cX0_arcOf 1 = .ok (.iload_n 1, 1) := by decide +kernel
theorem dX0_arcOf_2 : decode cX0_arcOf 2 = .ok (.invokevirtual 99, 3) := by decide +kernel
theorem dX0_arcOf_5 : decode cX0_arcOf 5 = .ok (.ifCond .eq 18, 3) := by decide +kernel
theorem dX0_arcOf_8 : decode cX0_arcOf 8 = .ok (.aload_n 0, 1) := by decide +kernel
theorem dX0_arcOf_9 : decode cX0_arcOf 9 = .ok (.getfield 19, 3) := by decide +kernel
theorem dX0_arcOf_12 : decode cX0_arcOf 12 = .ok (.iload_n 1, 1) := by decide +kernel
theorem dX0_arcOf_13 : decode cX0_arcOf 13 = .ok (.iaload, 1) := by decide +kernel
theorem dX0_arcOf_14 : decode cX0_arcOf 14 = .ok (.bipush 6, 2) := by decide +kernel
theorem dX0_arcOf_16 : decode cX0_arcOf 16 = .ok (.if_icmp .ne 7, 3) := by decide +kernel
theorem dX0_arcOf_19 : decode cX0_arcOf 19 = .ok (.iload_n 2, 1) := by decide +kernel
theorem dX0_arcOf_20 : decode cX0_arcOf 20 = .ok (.ifCond .ge 5, 3) := by decide +kernel
theorem dX0_arcOf_23 : decode cX0_arcOf 23 = .ok (.iconst (-1), 1) := by decide +kernel
theorem dX0_arcOf_24 : decode cX0_arcOf 24 = .ok (.ireturn, 1) := by decide +kernel
theorem dX0_arcOf_25 : decode cX0_arcOf 25 = .ok (.aload_n 0, 1) := by decide +kernel
theorem dX0_arcOf_26 : decode cX0_arcOf 26 = .ok (.iload_n 1, 1) := by decide +kernel
theorem dX0_arcOf_27 : decode cX0_arcOf 27 = .ok (.iload_n 2, 1) := by decide +kernel
theorem dX0_arcOf_28 : decode cX0_arcOf 28 = .ok (.iconst 2, 1) := by decide +kernel
theorem dX0_arcOf_29 : decode cX0_arcOf 29 = .ok (.if_icmp .ge 7, 3) := by decide +kernel
theorem dX0_arcOf_32 : decode cX0_arcOf 32 = .ok (.iconst 0, 1) := by decide +kernel
theorem dX0_arcOf_33 : decode cX0_arcOf 33 = .ok (.goto 6, 3) := by decide +kernel
theorem dX0_arcOf_36 : decode cX0_arcOf 36 = .ok (.iload_n 2, 1) := by decide +kernel
theorem dX0_arcOf_37 : decode cX0_arcOf 37 = .ok (.iconst 1, 1) := by decide +kernel
theorem dX0_arcOf_38 : decode cX0_arcOf 38 = .ok (.isub, 1) := by decide +kernel
theorem dX0_arcOf_39 : decode cX0_arcOf 39 = .ok (.invokevirtual 105, 3) := by decide +kernel
theorem dX0_arcOf_42 : decode cX0_arcOf 42 = .ok (.lstore_n 3, 1) := by decide +kernel
theorem dX0_arcOf_43 : decode cX0_arcOf 43 = .ok (.lload_n 3, 1) := by decide +kernel
theorem dX0_arcOf_44 : decode cX0_arcOf 44 = .ok (.lconst 0, 1) := by decide +kernel
theorem dX0_arcOf_45 : decode cX0_arcOf 45 = .ok (.lcmp, 1) := by decide +kernel
theorem dX0_arcOf_46 : decode cX0_arcOf 46 = .ok (.ifCond .ge 5, 3) := by decide +kernel
theorem dX0_arcOf_49 : decode cX0_arcOf 49 = .ok (.iconst (-1), 1) := by decide +kernel
theorem dX0_arcOf_50 : decode cX0_arcOf 50 = .ok (.ireturn, 1) := by decide +kernel
theorem dX0_arcOf_51 : decode cX0_arcOf 51 = .ok (.lload_n 3, 1) := by decide +kernel
theorem dX0_arcOf_52 : decode cX0_arcOf 52 = .ok (.lstore 5, 2) := by decide +kernel
theorem dX0_arcOf_54 : decode cX0_arcOf 54 = .ok (.iload_n 2, 1) := by decide +kernel
theorem dX0_arcOf_55 : decode cX0_arcOf 55 = .ok (.iconst 2, 1) := by decide +kernel
theorem dX0_arcOf_56 : decode cX0_arcOf 56 = .ok (.if_icmp .ge 29, 3) := by decide +kernel
theorem dX0_arcOf_59 : decode cX0_arcOf 59 = .ok (.lload_n 3, 1) := by decide +kernel
theorem dX0_arcOf_60 : decode cX0_arcOf 60 = .ok (.invokestatic 109, 3) := by decide +kernel
theorem dX0_arcOf_63 : decode cX0_arcOf 63 = .ok (.istore 7, 2) := by decide +kernel
theorem dX0_arcOf_65 : decode cX0_arcOf 65 = .ok (.iload_n 2, 1) := by decide +kernel
theorem dX0_arcOf_66 : decode cX0_arcOf 66 = .ok (.ifCond .ne 9, 3) := by decide +kernel
theorem dX0_arcOf_69 : decode cX0_arcOf 69 = .ok (.iload 7, 2) := by decide +kernel
theorem dX0_arcOf_71 : decode cX0_arcOf 71 = .ok (.i2l, 1) := by decide +kernel
theorem dX0_arcOf_72 : decode cX0_arcOf 72 = .ok (.goto 11, 3) := by decide +kernel
theorem dX0_arcOf_75 : decode cX0_arcOf 75 = .ok (.lload_n 3, 1) := by decide +kernel
theorem dX0_arcOf_76 : decode cX0_arcOf 76 = .ok (.bipush 40, 2) := by decide +kernel
theorem dX0_arcOf_78 : decode cX0_arcOf 78 = .ok (.iload 7, 2) := by decide +kernel
theorem dX0_arcOf_80 : decode cX0_arcOf 80 = .ok (.imul, 1) := by decide +kernel
theorem dX0_arcOf_81 : decode cX0_arcOf 81 = .ok (.i2l, 1) := by decide +kernel
theorem dX0_arcOf_82 : decode cX0_arcOf 82 = .ok (.lsub, 1) := by decide +kernel
theorem dX0_arcOf_83 : decode cX0_arcOf 83 = .ok (.lstore 5, 2) := by decide +kernel
theorem dX0_arcOf_85 : decode cX0_arcOf 85 = .ok (.lload 5, 2) := by decide +kernel
theorem dX0_arcOf_87 : decode cX0_arcOf 87 = .ok (.ldc2_w 113, 3) := by decide +kernel
theorem dX0_arcOf_90 : decode cX0_arcOf 90 = .ok (.lcmp, 1) := by decide +kernel
theorem dX0_arcOf_91 : decode cX0_arcOf 91 = .ok (.ifCond .le 8, 3) := by decide +kernel
theorem dX0_arcOf_94 : decode cX0_arcOf 94 = .ok (.bipush (-2), 2) := by decide +kernel
theorem dX0_arcOf_96 : decode cX0_arcOf 96 = .ok (.goto 6, 3) := by decide +kernel
theorem dX0_arcOf_99 : decode cX0_arcOf 99 = .ok (.lload 5, 2) := by decide +kernel
theorem dX0_arcOf_101 : decode cX0_arcOf 101 = .ok (.l2i, 1) := by decide +kernel
theorem dX0_arcOf_102 : decode cX0_arcOf 102 = .ok (.ireturn, 1) := by decide +kernel
theorem dX0_firstArcOf_0 : decode cX0_firstArcOf 0 = .ok (.lload_n 0, 1) := by decide +kernel
theorem dX0_firstArcOf_1 : decode cX0_firstArcOf 1 = .ok (.ldc2_w 115, 3) := by decide +kernel
theorem dX0_firstArcOf_4 : decode cX0_firstArcOf 4 = .ok (.lcmp, 1) := by decide +kernel
theorem dX0_firstArcOf_5 : decode cX0_firstArcOf 5 = .ok (.ifCond .ge 5, 3) := by decide +kernel
theorem dX0_firstArcOf_8 : decode cX0_firstArcOf 8 = .ok (.iconst 0, 1) := by decide +kernel
theorem dX0_firstArcOf_9 : decode cX0_firstArcOf 9 = .ok (.ireturn, 1) := by decide +kernel
theorem dX0_firstArcOf_10 : decode cX0_firstArcOf 10 = .ok (.lload_n 0, 1) := by decide +kernel
theorem dX0_firstArcOf_11 : decode cX0_firstArcOf 11 = .ok (.ldc2_w 117, 3) := by decide +kernel
theorem dX0_firstArcOf_14 : decode cX0_firstArcOf 14 = .ok (.lcmp, 1) := by decide +kernel
theorem dX0_firstArcOf_15 : decode cX0_firstArcOf 15 = .ok (.ifCond .ge 7, 3) := by decide +kernel
theorem dX0_firstArcOf_18 : decode cX0_firstArcOf 18 = .ok (.iconst 1, 1) := by decide +kernel
theorem dX0_firstArcOf_19 : decode cX0_firstArcOf 19 = .ok (.goto 4, 3) := by decide +kernel
theorem dX0_firstArcOf_22 : decode cX0_firstArcOf 22 = .ok (.iconst 2, 1) := by decide +kernel
theorem dX0_firstArcOf_23 : decode cX0_firstArcOf 23 = .ok (.ireturn, 1) := by decide +kernel
set_option maxRecDepth 20000 in
theorem ggX0_partOf_X0_endOf : GoodIn wsX0_partOf wsX0_endOf := goodIn_r _ [13, 1, 14, 15, 16, 17, 18, 19, 20, 21, 22, 23, 24] (by decide +kernel) (by decide +kernel)
set_option maxRecDepth 20000 in
theorem gX0_partOf_X0_endOf : GoodIn wsX0_partOf (wsV RX0 96 RX0 yX0_endOf wsX0_endOf) := goodIn_app (goodIn_of _ (by decide +kernel)) ggX0_partOf_X0_endOf
theorem dX0_partOf_0 : decode cX0_partOf 0 = .ok (.iconst 0, 1) := by decide +kernel
theorem dX0_partOf_1 : decode cX0_partOf 1 = .ok (.istore_n 3, 1) := by decide +kernel
theorem dX0_partOf_2 : decode cX0_partOf 2 = .ok (.lconst 0, 1) := by decide +kernel
theorem dX0_partOf_3 : decode cX0_partOf 3 = .ok (.lstore 4, 2) := by decide +kernel
theorem dX0_partOf_5 : decode cX0_partOf 5 = .ok (.aload_n 0, 1) := by decide +kernel
theorem dX0_partOf_6 : decode cX0_partOf 6 = .ok (.getfield 22, 3) := by decide +kernel
theorem dX0_partOf_9 : decode cX0_partOf 9 = .ok (.iload_n 1, 1) := by decide +kernel
theorem dX0_partOf_10 : decode cX0_partOf 10 = .ok (.iaload, 1) := by decide +kernel
theorem dX0_partOf_11 : decode cX0_partOf 11 = .ok (.istore 6, 2) := by decide +kernel
theorem dX0_partOf_13 : decode cX0_partOf 13 = .ok (.iload 6, 2) := by decide +kernel
theorem dX0_partOf_15 : decode cX0_partOf 15 = .ok (.aload_n 0, 1) := by decide +kernel
theorem dX0_partOf_16 : decode cX0_partOf 16 = .ok (.iload_n 1, 1) := by decide +kernel
theorem dX0_partOf_17 : decode cX0_partOf 17 = .ok (.invokevirtual 96, 3) := by decide +kernel
theorem dX0_partOf_20 : decode cX0_partOf 20 = .ok (.if_icmp .ge 61, 3) := by decide +kernel
theorem dX0_partOf_23 : decode cX0_partOf 23 = .ok (.lload 4, 2) := by decide +kernel
theorem dX0_partOf_25 : decode cX0_partOf 25 = .ok (.bipush 7, 2) := by decide +kernel
theorem dX0_partOf_27 : decode cX0_partOf 27 = .ok (.lshl, 1) := by decide +kernel
theorem dX0_partOf_28 : decode cX0_partOf 28 = .ok (.aload_n 0, 1) := by decide +kernel
theorem dX0_partOf_29 : decode cX0_partOf 29 = .ok (.getfield 9, 3) := by decide +kernel
theorem dX0_partOf_32 : decode cX0_partOf 32 = .ok (.iload 6, 2) := by decide +kernel
theorem dX0_partOf_34 : decode cX0_partOf 34 = .ok (.iaload, 1) := by decide +kernel
theorem dX0_partOf_35 : decode cX0_partOf 35 = .ok (.bipush 127, 2) := by decide +kernel
theorem dX0_partOf_37 : decode cX0_partOf 37 = .ok (.iand, 1) := by decide +kernel
theorem dX0_partOf_38 : decode cX0_partOf 38 = .ok (.i2l, 1) := by decide +kernel
theorem dX0_partOf_39 : decode cX0_partOf 39 = .ok (.lor, 1) := by decide +kernel
theorem dX0_partOf_40 : decode cX0_partOf 40 = .ok (.ldc2_w 119, 3) := by decide +kernel
theorem dX0_partOf_43 : decode cX0_partOf 43 = .ok (.invokestatic 121, 3) := by decide +kernel
theorem dX0_partOf_46 : decode cX0_partOf 46 = .ok (.lstore 4, 2) := by decide +kernel
theorem dX0_partOf_48 : decode cX0_partOf 48 = .ok (.aload_n 0, 1) := by decide +kernel
theorem dX0_partOf_49 : decode cX0_partOf 49 = .ok (.getfield 9, 3) := by decide +kernel
theorem dX0_partOf_52 : decode cX0_partOf 52 = .ok (.iload 6, 2) := by decide +kernel
theorem dX0_partOf_54 : decode cX0_partOf 54 = .ok (.iaload, 1) := by decide +kernel
theorem dX0_partOf_55 : decode cX0_partOf 55 = .ok (.sipush 128, 3) := by decide +kernel
theorem dX0_partOf_58 : decode cX0_partOf 58 = .ok (.if_icmp .ge 17, 3) := by decide +kernel
theorem dX0_partOf_61 : decode cX0_partOf 61 = .ok (.iload_n 3, 1) := by decide +kernel
theorem dX0_partOf_62 : decode cX0_partOf 62 = .ok (.iload_n 2, 1) := by decide +kernel
theorem dX0_partOf_63 : decode cX0_partOf 63 = .ok (.if_icmp .ne 6, 3) := by decide +kernel
theorem dX0_partOf_66 : decode cX0_partOf 66 = .ok (.lload 4, 2) := by decide +kernel
theorem dX0_partOf_68 : decode cX0_partOf 68 = .ok (.lreturn, 1) := by decide +kernel
theorem dX0_partOf_69 : decode cX0_partOf 69 = .ok (.iinc 3 1, 3) := by decide +kernel
theorem dX0_partOf_72 : decode cX0_partOf 72 = .ok (.lconst 0, 1) := by decide +kernel
theorem dX0_partOf_73 : decode cX0_partOf 73 = .ok (.lstore 4, 2) := by decide +kernel
theorem dX0_partOf_75 : decode cX0_partOf 75 = .ok (.iinc 6 1, 3) := by decide +kernel
theorem dX0_partOf_78 : decode cX0_partOf 78 = .ok (.goto (-65), 3) := by decide +kernel
theorem dX0_partOf_81 : decode cX0_partOf 81 = .ok (.ldc2_w 127, 3) := by decide +kernel
theorem dX0_partOf_84 : decode cX0_partOf 84 = .ok (.lreturn, 1) := by decide +kernel
