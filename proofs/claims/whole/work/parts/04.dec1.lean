theorem dX1_isByte_0 : decode cX1_isByte 0 = .ok (.iload_n 0, 1) := by decide +kernel
theorem dX1_isByte_1 : decode cX1_isByte 1 = .ok (.ifCond .lt 14, 3) := by decide +kernel
theorem dX1_isByte_4 : decode cX1_isByte 4 = .ok (.iload_n 0, 1) := by decide +kernel
theorem dX1_isByte_5 : decode cX1_isByte 5 = .ok (.sipush 255, 3) := by decide +kernel
theorem dX1_isByte_8 : decode cX1_isByte 8 = .ok (.if_icmp .gt 7, 3) := by decide +kernel
theorem dX1_isByte_11 : decode cX1_isByte 11 = .ok (.iconst 1, 1) := by decide +kernel
theorem dX1_isByte_12 : decode cX1_isByte 12 = .ok (.goto 4, 3) := by decide +kernel
theorem dX1_isByte_15 : decode cX1_isByte 15 = .ok (.iconst 0, 1) := by decide +kernel
theorem dX1_isByte_16 : decode cX1_isByte 16 = .ok (.ireturn, 1) := by decide +kernel
theorem dX1_isIdentifier_0 : decode cX1_isIdentifier 0 = .ok (.iload_n 0, 1) := by decide +kernel
theorem dX1_isIdentifier_1 : decode cX1_isIdentifier 1 = .ok (.iconst 1, 1) := by decide +kernel
theorem dX1_isIdentifier_2 : decode cX1_isIdentifier 2 = .ok (.if_icmp .lt 9, 3) := by decide +kernel
theorem dX1_isIdentifier_5 : decode cX1_isIdentifier 5 = .ok (.iload_n 0, 1) := by decide +kernel
theorem dX1_isIdentifier_6 : decode cX1_isIdentifier 6 = .ok (.bipush 6, 2) := by decide +kernel
theorem dX1_isIdentifier_8 : decode cX1_isIdentifier 8 = .ok (.if_icmp .le 9, 3) := by decide +kernel
theorem dX1_isIdentifier_11 : decode cX1_isIdentifier 11 = .ok (.iload_n 0, 1) := by decide +kernel
theorem dX1_isIdentifier_12 : decode cX1_isIdentifier 12 = .ok (.bipush 48, 2) := by decide +kernel
theorem dX1_isIdentifier_14 : decode cX1_isIdentifier 14 = .ok (.if_icmp .ne 7, 3) := by decide +kernel
theorem dX1_isIdentifier_17 : decode cX1_isIdentifier 17 = .ok (.iconst 1, 1) := by decide +kernel
theorem dX1_isIdentifier_18 : decode cX1_isIdentifier 18 = .ok (.goto 4, 3) := by decide +kernel
theorem dX1_isIdentifier_21 : decode cX1_isIdentifier 21 = .ok (.iconst 0, 1) := by decide +kernel
theorem dX1_isIdentifier_22 : decode cX1_isIdentifier 22 = .ok (.ireturn, 1) := by decide +kernel
theorem dX1_lengthSize_0 : decode cX1_lengthSize 0 = .ok (.iload_n 0, 1) := by decide +kernel
theorem dX1_lengthSize_1 : decode cX1_lengthSize 1 = .ok (.sipush 128, 3) := by decide +kernel
theorem dX1_lengthSize_4 : decode cX1_lengthSize 4 = .ok (.if_icmp .ge 5, 3) := by decide +kernel
theorem dX1_lengthSize_7 : decode cX1_lengthSize 7 = .ok (.iconst 1, 1) := by decide +kernel
theorem dX1_lengthSize_8 : decode cX1_lengthSize 8 = .ok (.ireturn, 1) := by decide +kernel
theorem dX1_lengthSize_9 : decode cX1_lengthSize 9 = .ok (.iload_n 0, 1) := by decide +kernel
theorem dX1_lengthSize_10 : decode cX1_lengthSize 10 = .ok (.sipush 256, 3) := by decide +kernel
theorem dX1_lengthSize_13 : decode cX1_lengthSize 13 = .ok (.if_icmp .ge 7, 3) := by decide +kernel
theorem dX1_lengthSize_16 : decode cX1_lengthSize 16 = .ok (.iconst 2, 1) := by decide +kernel
theorem dX1_lengthSize_17 : decode cX1_lengthSize 17 = .ok (.goto 4, 3) := by decide +kernel
theorem dX1_lengthSize_20 : decode cX1_lengthSize 20 = .ok (.iconst 3, 1) := by decide +kernel
theorem dX1_lengthSize_21 : decode cX1_lengthSize 21 = .ok (.ireturn, 1) := by decide +kernel
set_option maxRecDepth 20000 in
theorem ggX1_hold_X1_isRightInteger : GoodIn wsX1_hold wsX1_isRightInteger := goodIn_r _ [4] (by decide +kernel) (by decide +kernel)
set_option maxRecDepth 20000 in
theorem gX1_hold_X1_isRightInteger : GoodIn wsX1_hold (va_wsS RX1 9 yX1_isRightInteger wsX1_isRightInteger) := goodIn_app (goodIn_of _ (by decide +kernel)) ggX1_hold_X1_isRightInteger
set_option maxRecDepth 20000 in
theorem ggX1_hold_X1_isRightBits : GoodIn wsX1_hold wsX1_isRightBits := goodIn_r _ [7] (by decide +kernel) (by decide +kernel)
set_option maxRecDepth 20000 in
theorem gX1_hold_X1_isRightBits : GoodIn wsX1_hold (va_wsS RX1 15 yX1_isRightBits wsX1_isRightBits) := goodIn_app (goodIn_of _ (by decide +kernel)) ggX1_hold_X1_isRightBits
set_option maxRecDepth 20000 in
theorem ggX1_hold_X1_isRightObject : GoodIn wsX1_hold wsX1_isRightObject := goodIn_r _ [10] (by decide +kernel) (by decide +kernel)
set_option maxRecDepth 20000 in
theorem gX1_hold_X1_isRightObject : GoodIn wsX1_hold (va_wsS RX1 18 yX1_isRightObject wsX1_isRightObject) := goodIn_app (goodIn_of _ (by decide +kernel)) ggX1_hold_X1_isRightObject
theorem dX1_hold_0 : decode cX1_hold 0 = .ok (.iload_n 0, 1) := by decide +kernel
theorem dX1_hold_1 : decode cX1_hold 1 = .ok (.tableswitch 96 1 6 #[39, 65, 72, 96, 79, 89], 39) := by decide +kernel
theorem dX1_hold_40 : decode cX1_hold 40 = .ok (.iload_n 3, 1) := by decide +kernel
theorem dX1_hold_41 : decode cX1_hold 41 = .ok (.iconst 1, 1) := by decide +kernel
theorem dX1_hold_42 : decode cX1_hold 42 = .ok (.if_icmp .ne 22, 3) := by decide +kernel
theorem dX1_hold_45 : decode cX1_hold 45 = .ok (.aload_n 1, 1) := by decide +kernel
theorem dX1_hold_46 : decode cX1_hold 46 = .ok (.iload_n 2, 1) := by decide +kernel
theorem dX1_hold_47 : decode cX1_hold 47 = .ok (.iaload, 1) := by decide +kernel
theorem dX1_hold_48 : decode cX1_hold 48 = .ok (.ifCond .eq 12, 3) := by decide +kernel
theorem dX1_hold_51 : decode cX1_hold 51 = .ok (.aload_n 1, 1) := by decide +kernel
theorem dX1_hold_52 : decode cX1_hold 52 = .ok (.iload_n 2, 1) := by decide +kernel
theorem dX1_hold_53 : decode cX1_hold 53 = .ok (.iaload, 1) := by decide +kernel
theorem dX1_hold_54 : decode cX1_hold 54 = .ok (.sipush 255, 3) := by decide +kernel
theorem dX1_hold_57 : decode cX1_hold 57 = .ok (.if_icmp .ne 7, 3) := by decide +kernel
theorem dX1_hold_60 : decode cX1_hold 60 = .ok (.iconst 1, 1) := by decide +kernel
theorem dX1_hold_61 : decode cX1_hold 61 = .ok (.goto 4, 3) := by decide +kernel
theorem dX1_hold_64 : decode cX1_hold 64 = .ok (.iconst 0, 1) := by decide +kernel
theorem dX1_hold_65 : decode cX1_hold 65 = .ok (.ireturn, 1) := by decide +kernel
theorem dX1_hold_66 : decode cX1_hold 66 = .ok (.aload_n 1, 1) := by decide +kernel
theorem dX1_hold_67 : decode cX1_hold 67 = .ok (.iload_n 2, 1) := by decide +kernel
theorem dX1_hold_68 : decode cX1_hold 68 = .ok (.iload_n 3, 1) := by decide +kernel
theorem dX1_hold_69 : decode cX1_hold 69 = .ok (.invokestatic 9, 3) := by decide +kernel
theorem dX1_hold_72 : decode cX1_hold 72 = .ok (.ireturn, 1) := by decide +kernel
theorem dX1_hold_73 : decode cX1_hold 73 = .ok (.aload_n 1, 1) := by decide +kernel
theorem dX1_hold_74 : decode cX1_hold 74 = .ok (.iload_n 2, 1) := by decide +kernel
theorem dX1_hold_75 : decode cX1_hold 75 = .ok (.iload_n 3, 1) := by decide +kernel
theorem dX1_hold_76 : decode cX1_hold 76 = .ok (.invokestatic 15, 3) := by decide +kernel
theorem dX1_hold_79 : decode cX1_hold 79 = .ok (.ireturn, 1) := by decide +kernel
theorem dX1_hold_80 : decode cX1_hold 80 = .ok (.iload_n 3, 1) := by decide +kernel
theorem dX1_hold_81 : decode cX1_hold 81 = .ok (.ifCond .ne 7, 3) := by decide +kernel
theorem dX1_hold_84 : decode cX1_hold 84 = .ok (.iconst 1, 1) := by decide +kernel
theorem dX1_hold_85 : decode cX1_hold 85 = .ok (.goto 4, 3) := by decide +kernel
theorem dX1_hold_88 : decode cX1_hold 88 = .ok (.iconst 0, 1) := by decide +kernel
theorem dX1_hold_89 : decode cX1_hold 89 = .ok (.ireturn, 1) := by decide +kernel
theorem dX1_hold_90 : decode cX1_hold 90 = .ok (.aload_n 1, 1) := by decide +kernel
theorem dX1_hold_91 : decode cX1_hold 91 = .ok (.iload_n 2, 1) := by decide +kernel
theorem dX1_hold_92 : decode cX1_hold 92 = .ok (.iload_n 3, 1) := by decide +kernel
theorem dX1_hold_93 : decode cX1_hold 93 = .ok (.invokestatic 18, 3) := by decide +kernel
theorem dX1_hold_96 : decode cX1_hold 96 = .ok (.ireturn, 1) := by decide +kernel
theorem dX1_hold_97 : decode cX1_hold 97 = .ok (.iconst 1, 1) := by decide +kernel
theorem dX1_hold_98 : decode cX1_hold 98 = .ok (.ireturn, 1) := by decide +kernel
theorem dX1_isRightInteger_0 : decode cX1_isRightInteger 0 = .ok (.iload_n 2, 1) := by decide +kernel
theorem dX1_isRightInteger_1 : decode cX1_isRightInteger 1 = .ok (.iconst 2, 1) := by decide +kernel
theorem dX1_isRightInteger_2 : decode cX1_isRightInteger 2 = .ok (.if_icmp .ge 14, 3) := by decide +kernel
theorem dX1_isRightInteger_5 : decode cX1_isRightInteger 5 = .ok (.iload_n 2, 1) := by decide +kernel
theorem dX1_isRightInteger_6 : decode cX1_isRightInteger 6 = .ok (.iconst 1, 1) := by decide +kernel
theorem dX1_isRightInteger_7 : decode cX1_isRightInteger 7 = .ok (.if_icmp .ne 7, 3) := by decide +kernel
theorem dX1_isRightInteger_10 : decode cX1_isRightInteger 10 = .ok (.iconst 1, 1) := by decide +kernel
theorem dX1_isRightInteger_11 : decode cX1_isRightInteger 11 = .ok (.goto 4, 3) := by decide +kernel
theorem dX1_isRightInteger_14 : decode cX1_isRightInteger 14 = .ok (.iconst 0, 1) := by decide +kernel
theorem dX1_isRightInteger_15 : decode cX1_isRightInteger 15 = .ok (.ireturn, 1) := by decide +kernel
theorem dX1_isRightInteger_16 : decode cX1_isRightInteger 16 = .ok (.aload_n 0, 1) := by decide +kernel
theorem dX1_isRightInteger_17 : decode cX1_isRightInteger 17 = .ok (.iload_n 1, 1) := by decide +kernel
theorem dX1_isRightInteger_18 : decode cX1_isRightInteger 18 = .ok (.iconst 1, 1) := by decide +kernel
theorem dX1_isRightInteger_19 : decode cX1_isRightInteger 19 = .ok (.iadd, 1) := by decide +kernel
theorem dX1_isRightInteger_20 : decode cX1_isRightInteger 20 = .ok (.iaload, 1) := by decide +kernel
theorem dX1_isRightInteger_21 : decode cX1_isRightInteger 21 = .ok (.sipush 128, 3) := by decide +kernel
theorem dX1_isRightInteger_24 : decode cX1_isRightInteger 24 = .ok (.if_icmp .lt 7, 3) := by decide +kernel
theorem dX1_isRightInteger_27 : decode cX1_isRightInteger 27 = .ok (.iconst 1, 1) := by decide +kernel
theorem dX1_isRightInteger_28 : decode cX1_isRightInteger 28 = .ok (.goto 4, 3) := by decide +kernel
theorem dX1_isRightInteger_31 : decode cX1_isRightInteger 31 = .ok (.iconst 0, 1) := by decide +kernel
theorem dX1_isRightInteger_32 : decode cX1_isRightInteger 32 = .ok (.istore_n 3, 1) := by decide +kernel
theorem dX1_isRightInteger_33 : decode cX1_isRightInteger 33 = .ok (.aload_n 0, 1) := by decide +kernel
theorem dX1_isRightInteger_34 : decode cX1_isRightInteger 34 = .ok (.iload_n 1, 1) := by decide +kernel
theorem dX1_isRightInteger_35 : decode cX1_isRightInteger 35 = .ok (.iaload, 1) := by decide +kernel
theorem dX1_isRightInteger_36 : decode cX1_isRightInteger 36 = .ok (.iload_n 3, 1) := by decide +kernel
theorem dX1_isRightInteger_37 : decode cX1_isRightInteger 37 = .ok (.ifCond .eq 9, 3) := by decide +kernel
theorem dX1_isRightInteger_40 : decode cX1_isRightInteger 40 = .ok (.sipush 255, 3) := by decide +kernel
theorem dX1_isRightInteger_43 : decode cX1_isRightInteger 43 = .ok (.goto 4, 3) := by decide +kernel
theorem dX1_isRightInteger_46 : decode cX1_isRightInteger 46 = .ok (.iconst 0, 1) := by decide +kernel
theorem dX1_isRightInteger_47 : decode cX1_isRightInteger 47 = .ok (.if_icmp .eq 7, 3) := by decide +kernel
theorem dX1_isRightInteger_50 : decode cX1_isRightInteger 50 = .ok (.iconst 1, 1) := by decide +kernel
theorem dX1_isRightInteger_51 : decode cX1_isRightInteger 51 = .ok (.goto 4, 3) := by decide +kernel
theorem dX1_isRightInteger_54 : decode cX1_isRightInteger 54 = .ok (.iconst 0, 1) := by decide +kernel
theorem dX1_isRightInteger_55 : decode cX1_isRightInteger 55 = .ok (.ireturn, 1) := by decide +kernel
theorem dX1_isRightBits_0 : decode cX1_isRightBits 0 = .ok (.iload_n 2, 1) := by decide +kernel
theorem dX1_isRightBits_1 : decode cX1_isRightBits 1 = .ok (.iconst 1, 1) := by decide +kernel
theorem dX1_isRightBits_2 : decode cX1_isRightBits 2 = .ok (.if_icmp .ge 5, 3) := by decide +kernel
theorem dX1_isRightBits_5 : decode cX1_isRightBits 5 = .ok (.iconst 0, 1) := by decide +kernel
theorem dX1_isRightBits_6 : decode cX1_isRightBits 6 = .ok (.ireturn, 1) := by decide +kernel
theorem dX1_isRightBits_7 : decode cX1_isRightBits 7 = .ok (.aload_n 0, 1) := by decide +kernel
theorem dX1_isRightBits_8 : decode cX1_isRightBits 8 = .ok (.iload_n 1, 1) := by decide +kernel
theorem dX1_isRightBits_9 : decode cX1_isRightBits 9 = .ok (.iaload, 1) := by decide +kernel
theorem dX1_isRightBits_10 : decode cX1_isRightBits 10 = .ok (.istore_n 3, 1) := by decide +kernel
theorem dX1_isRightBits_11 : decode cX1_isRightBits 11 = .ok (.iload_n 2, 1) := by decide +kernel
theorem dX1_isRightBits_12 : decode cX1_isRightBits 12 = .ok (.iconst 1, 1) := by decide +kernel
theorem dX1_isRightBits_13 : decode cX1_isRightBits 13 = .ok (.if_icmp .eq 9, 3) := by decide +kernel
theorem dX1_isRightBits_16 : decode cX1_isRightBits 16 = .ok (.iload_n 3, 1) := by decide +kernel
theorem dX1_isRightBits_17 : decode cX1_isRightBits 17 = .ok (.bipush 7, 2) := by decide +kernel
theorem dX1_isRightBits_19 : decode cX1_isRightBits 19 = .ok (.if_icmp .le 13, 3) := by decide +kernel
theorem dX1_isRightBits_22 : decode cX1_isRightBits 22 = .ok (.iload_n 3, 1) := by decide +kernel
theorem dX1_isRightBits_23 : decode cX1_isRightBits 23 = .ok (.ifCond .ne 7, 3) := by decide +kernel
theorem dX1_isRightBits_26 : decode cX1_isRightBits 26 = .ok (.iconst 1, 1) := by decide +kernel
theorem dX1_isRightBits_27 : decode cX1_isRightBits 27 = .ok (.goto 4, 3) := by decide +kernel
theorem dX1_isRightBits_30 : decode cX1_isRightBits 30 = .ok (.iconst 0, 1) := by decide +kernel
theorem dX1_isRightBits_31 : decode cX1_isRightBits 31 = .ok (.ireturn, 1) := by decide +kernel
theorem dX1_isRightBits_32 : decode cX1_isRightBits 32 = .ok (.iconst 1, 1) := by decide +kernel
theorem dX1_isRightBits_33 : decode cX1_isRightBits 33 = .ok (.iload_n 3, 1) := by decide +kernel
theorem dX1_isRightBits_34 : decode cX1_isRightBits 34 = .ok (.ishl, 1) := by decide +kernel
theorem dX1_isRightBits_35 : decode cX1_isRightBits 35 = .ok (.iconst 1, 1) := by decide +kernel
theorem dX1_isRightBits_36 : decode cX1_isRightBits 36 = .ok (.isub, 1) := by decide +kernel
theorem dX1_isRightBits_37 : decode cX1_isRightBits 37 = .ok (.istore 4, 2) := by decide +kernel
theorem dX1_isRightBits_39 : decode cX1_isRightBits 39 = .ok (.aload_n 0, 1) := by decide +kernel
theorem dX1_isRightBits_40 : decode cX1_isRightBits 40 = .ok (.iload_n 1, 1) := by decide +kernel
theorem dX1_isRightBits_41 : decode cX1_isRightBits 41 = .ok (.iload_n 2, 1) := by decide +kernel
theorem dX1_isRightBits_42 : decode cX1_isRightBits 42 = .ok (.iadd, 1) := by decide +kernel
theorem dX1_isRightBits_43 : decode cX1_isRightBits 43 = .ok (.iconst 1, 1) := by decide +kernel
theorem dX1_isRightBits_44 : decode cX1_isRightBits 44 = .ok (.isub, 1) := by decide +kernel
theorem dX1_isRightBits_45 : decode cX1_isRightBits 45 = .ok (.iaload, 1) := by decide +kernel
theorem dX1_isRightBits_46 : decode cX1_isRightBits 46 = .ok (.iload 4, 2) := by decide +kernel
theorem dX1_isRightBits_48 : decode cX1_isRightBits 48 = .ok (.iand, 1) := by decide +kernel
theorem dX1_isRightBits_49 : decode cX1_isRightBits 49 = .ok (.ifCond .ne 7, 3) := by decide +kernel
theorem dX1_isRightBits_52 : decode cX1_isRightBits 52 = .ok (.iconst 1, 1) := by decide +kernel
theorem dX1_isRightBits_53 : decode cX1_isRightBits 53 = .ok (.goto 4, 3) := by decide +kernel
theorem dX1_isRightBits_56 : decode cX1_isRightBits 56 = .ok (.iconst 0, 1) := by decide +kernel
theorem dX1_isRightBits_57 : decode cX1_isRightBits 57 = .ok (.ireturn, 1) := by decide +kernel
theorem dX1_isRightObject_0 : decode cX1_isRightObject 0 = .ok (.iconst 1, 1) := by decide +kernel
theorem dX1_isRightObject_1 : decode cX1_isRightObject 1 = .ok (.istore_n 3, 1) := by decide +kernel
theorem dX1_isRightObject_2 : decode cX1_isRightObject 2 = .ok (.iload_n 1, 1) := by decide +kernel
theorem dX1_isRightObject_3 : decode cX1_isRightObject 3 = .ok (.istore 4, 2) := by decide +kernel
theorem dX1_isRightObject_5 : decode cX1_isRightObject 5 = .ok (.iload 4, 2) := by decide +kernel
theorem dX1_isRightObject_7 : decode cX1_isRightObject 7 = .ok (.iload_n 1, 1) := by decide +kernel
theorem dX1_isRightObject_8 : decode cX1_isRightObject 8 = .ok (.iload_n 2, 1) := by decide +kernel
theorem dX1_isRightObject_9 : decode cX1_isRightObject 9 = .ok (.iadd, 1) := by decide +kernel
theorem dX1_isRightObject_10 : decode cX1_isRightObject 10 = .ok (.if_icmp .ge 41, 3) := by decide +kernel
theorem dX1_isRightObject_13 : decode cX1_isRightObject 13 = .ok (.iload_n 3, 1) := by decide +kernel
theorem dX1_isRightObject_14 : decode cX1_isRightObject 14 = .ok (.ifCond .eq 15, 3) := by decide +kernel
theorem dX1_isRightObject_17 : decode cX1_isRightObject 17 = .ok (.aload_n 0, 1) := by decide +kernel
theorem dX1_isRightObject_18 : decode cX1_isRightObject 18 = .ok (.iload 4, 2) := by decide +kernel
theorem dX1_isRightObject_20 : decode cX1_isRightObject 20 = .ok (.iaload, 1) := by decide +kernel
theorem dX1_isRightObject_21 : decode cX1_isRightObject 21 = .ok (.sipush 128, 3) := by decide +kernel
theorem dX1_isRightObject_24 : decode cX1_isRightObject 24 = .ok (.if_icmp .ne 5, 3) := by decide +kernel
theorem dX1_isRightObject_27 : decode cX1_isRightObject 27 = .ok (.iconst 0, 1) := by decide +kernel
theorem dX1_isRightObject_28 : decode cX1_isRightObject 28 = .ok (.ireturn, 1) := by decide +kernel
theorem dX1_isRightObject_29 : decode cX1_isRightObject 29 = .ok (.aload_n 0, 1) := by decide +kernel
theorem dX1_isRightObject_30 : decode cX1_isRightObject 30 = .ok (.iload 4, 2) := by decide +kernel
theorem dX1_isRightObject_32 : decode cX1_isRightObject 32 = .ok (.iaload, 1) := by decide +kernel
theorem dX1_isRightObject_33 : decode cX1_isRightObject 33 = .ok (.sipush 128, 3) := by decide +kernel
theorem dX1_isRightObject_36 : decode cX1_isRightObject 36 = .ok (.if_icmp .ge 7, 3) := by decide +kernel
theorem dX1_isRightObject_39 : decode cX1_isRightObject 39 = .ok (.iconst 1, 1) := by decide +kernel
theorem dX1_isRightObject_40 : decode cX1_isRightObject 40 = .ok (.goto 4, 3) := by decide +kernel
theorem dX1_isRightObject_43 : decode cX1_isRightObject 43 = .ok (.iconst 0, 1) := by decide +kernel
theorem dX1_isRightObject_44 : decode cX1_isRightObject 44 = .ok (.istore_n 3, 1) := by decide +kernel
theorem dX1_isRightObject_45 : decode cX1_isRightObject 45 = .ok (.iinc 4 1, 3) := by decide +kernel
theorem dX1_isRightObject_48 : decode cX1_isRightObject 48 = .ok (.goto (-43), 3) := by decide +kernel
theorem dX1_isRightObject_51 : decode cX1_isRightObject 51 = .ok (.iload_n 2, 1) := by decide +kernel
theorem dX1_isRightObject_52 : decode cX1_isRightObject 52 = .ok (.ifCond .le 11, 3) := by decide +kernel
theorem dX1_isRightObject_55 : decode cX1_isRightObject 55 = .ok (.iload_n 3, 1) := by decide +kernel
theorem dX1_isRightObject_56 : decode cX1_isRightObject 56 = .ok (.ifCond .eq 7, 3) := by decide +kernel
theorem dX1_isRightObject_59 : decode cX1_isRightObject 59 = .ok (.iconst 1, 1) := by decide +kernel
theorem dX1_isRightObject_60 : decode cX1_isRightObject 60 = .ok (.goto 4, 3) := by decide +kernel
theorem dX1_isRightObject_63 : decode cX1_isRightObject 63 = .ok (.iconst 0, 1) := by decide +kernel
theorem dX1_isRightObject_64 : decode cX1_isRightObject 64 = .ok (.ireturn, 1) := by decide +kernel
theorem dX2_init_0 : decode cX2_init 0 = .ok (.aload_n 0, 1) := by decide +kernel
theorem dX2_init_1 : decode cX2_init 1 = .ok (.invokespecial 3, 3) := by decide +kernel
theorem dX2_init_4 : decode cX2_init 4 = .ok (.aload_n 0, 1) := by decide +kernel
theorem dX2_init_5 : decode cX2_init 5 = .ok (.sipush 300, 3) := by decide +kernel
theorem dX2_init_8 : decode cX2_init 8 = .ok (.newarray .int, 2) := by decide +kernel
theorem dX2_init_10 : decode cX2_init 10 = .ok (.putfield 9, 3) := by decide +kernel
theorem dX2_init_13 : decode cX2_init 13 = .ok (.aload_n 0, 1) := by decide +kernel
theorem dX2_init_14 : decode cX2_init 14 = .ok (.iconst 0, 1) := by decide +kernel
theorem dX2_init_15 : decode cX2_init 15 = .ok (.putfield 15, 3) := by decide +kernel
theorem dX2_init_18 : decode cX2_init 18 = .ok (.aload_n 0, 1) := by decide +kernel
theorem dX2_init_19 : decode cX2_init 19 = .ok (.bipush 16, 2) := by decide +kernel
theorem dX2_init_21 : decode cX2_init 21 = .ok (.newarray .int, 2) := by decide +kernel
theorem dX2_init_23 : decode cX2_init 23 = .ok (.putfield 19, 3) := by decide +kernel
theorem dX2_init_26 : decode cX2_init 26 = .ok (.aload_n 0, 1) := by decide +kernel
theorem dX2_init_27 : decode cX2_init 27 = .ok (.iconst 0, 1) := by decide +kernel
theorem dX2_init_28 : decode cX2_init 28 = .ok (.putfield 22, 3) := by decide +kernel
theorem dX2_init_31 : decode cX2_init 31 = .ok (.return_, 1) := by decide +kernel
theorem dX2_clear_0 : decode cX2_clear 0 = .ok (.aload_n 0, 1) := by decide +kernel
theorem dX2_clear_1 : decode cX2_clear 1 = .ok (.iconst 0, 1) := by decide +kernel
theorem dX2_clear_2 : decode cX2_clear 2 = .ok (.putfield 15, 3) := by decide +kernel
theorem dX2_clear_5 : decode cX2_clear 5 = .ok (.aload_n 0, 1) := by decide +kernel
theorem dX2_clear_6 : decode cX2_clear 6 = .ok (.iconst 0, 1) := by decide +kernel
theorem dX2_clear_7 : decode cX2_clear 7 = .ok (.putfield 22, 3) := by decide +kernel
theorem dX2_clear_10 : decode cX2_clear 10 = .ok (.return_, 1) := by decide +kernel
set_option maxRecDepth 20000 in
theorem ggX2_open_X1_isIdentifier : GoodIn wsX2_open wsX1_isIdentifier := goodIn_r _ [7] (by decide +kernel) (by decide +kernel)
set_option maxRecDepth 20000 in
theorem gX2_open_X1_isIdentifier : GoodIn wsX2_open (va_wsS RX2 25 yX1_isIdentifier wsX1_isIdentifier) := goodIn_app (goodIn_of _ (by decide +kernel)) ggX2_open_X1_isIdentifier
set_option maxRecDepth 20000 in
theorem ggX2_open_X2_canHoldValue : GoodIn wsX2_open wsX2_canHoldValue := goodIn_r _ [12, 1, 3, 13, 14, 15, 11, 16, 17, 2, 26, 27, 28, 29] (by decide +kernel) (by decide +kernel)
set_option maxRecDepth 20000 in
theorem gX2_open_X2_canHoldValue : GoodIn wsX2_open (wsV RX2 31 RX2 yX2_canHoldValue wsX2_canHoldValue) := goodIn_app (goodIn_of _ (by decide +kernel)) ggX2_open_X2_canHoldValue
set_option maxRecDepth 20000 in
theorem ggX2_open_X2_hasRoom : GoodIn wsX2_open wsX2_hasRoom := goodIn_r _ [21, 3, 26, 27, 28, 29] (by decide +kernel) (by decide +kernel)
set_option maxRecDepth 20000 in
theorem gX2_open_X2_hasRoom : GoodIn wsX2_open (wsV RX2 35 RX2 yX2_hasRoom wsX2_hasRoom) := goodIn_app (goodIn_of _ (by decide +kernel)) ggX2_open_X2_hasRoom
set_option maxRecDepth 20000 in
theorem ggX2_open_X2_append : GoodIn wsX2_open wsX2_append := goodIn_r _ [25, 3, 17, 26, 27, 28, 29] (by decide +kernel) (by decide +kernel)
set_option maxRecDepth 20000 in
theorem gX2_open_X2_append : GoodIn wsX2_open (wsV RX2 38 RX2 yX2_append wsX2_append) := goodIn_app (goodIn_of _ (by decide +kernel)) ggX2_open_X2_append
theorem dX2_open_0 : decode cX2_open 0 = .ok (.iload_n 1, 1) := by decide +kernel
theorem dX2_open_1 : decode cX2_open 1 = .ok (.invokestatic 25, 3) := by decide +kernel
theorem dX2_open_4 : decode cX2_open 4 = .ok (.ifCond .ne 5, 3) := by decide +kernel
theorem dX2_open_7 : decode cX2_open 7 = .ok (.iconst (-1), 1) := by decide +kernel
theorem dX2_open_8 : decode cX2_open 8 = .ok (.ireturn, 1) := by decide +kernel
theorem dX2_open_9 : decode cX2_open 9 = .ok (.aload_n 0, 1) := by decide +kernel
theorem dX2_open_10 : decode cX2_open 10 = .ok (.invokevirtual 31, 3) := by decide +kernel
theorem dX2_open_13 : decode cX2_open 13 = .ok (.ifCond .ne 6, 3) := by decide +kernel
theorem dX2_open_16 : decode cX2_open 16 = .ok (.bipush (-2), 2) := by decide +kernel
theorem dX2_open_18 : decode cX2_open 18 = .ok (.ireturn, 1) := by decide +kernel
theorem dX2_open_19 : decode cX2_open 19 = .ok (.aload_n 0, 1) := by decide +kernel
theorem dX2_open_20 : decode cX2_open 20 = .ok (.getfield 22, 3) := by decide +kernel
theorem dX2_open_23 : decode cX2_open 23 = .ok (.bipush 16, 2) := by decide +kernel
theorem dX2_open_25 : decode cX2_open 25 = .ok (.if_icmp .ge 11, 3) := by decide +kernel
theorem dX2_open_28 : decode cX2_open 28 = .ok (.aload_n 0, 1) := by decide +kernel
theorem dX2_open_29 : decode cX2_open 29 = .ok (.iconst 1, 1) := by decide +kernel
theorem dX2_open_30 : decode cX2_open 30 = .ok (.invokevirtual 35, 3) := by decide +kernel
theorem dX2_open_33 : decode cX2_open 33 = .ok (.ifCond .ne 6, 3) := by decide +kernel
theorem dX2_open_36 : decode cX2_open 36 = .ok (.bipush (-3), 2) := by decide +kernel
theorem dX2_open_38 : decode cX2_open 38 = .ok (.ireturn, 1) := by decide +kernel
theorem dX2_open_39 : decode cX2_open 39 = .ok (.aload_n 0, 1) := by decide +kernel
theorem dX2_open_40 : decode cX2_open 40 = .ok (.getfield 19, 3) := by decide +kernel
theorem dX2_open_43 : decode cX2_open 43 = .ok (.aload_n 0, 1) := by decide +kernel
theorem dX2_open_44 : decode cX2_open 44 = .ok (.getfield 22, 3) := by decide +kernel
theorem dX2_open_47 : decode cX2_open 47 = .ok (.aload_n 0, 1) := by decide +kernel
theorem dX2_open_48 : decode cX2_open 48 = .ok (.getfield 15, 3) := by decide +kernel
theorem dX2_open_51 : decode cX2_open 51 = .ok (.iastore, 1) := by decide +kernel
theorem dX2_open_52 : decode cX2_open 52 = .ok (.aload_n 0, 1) := by decide +kernel
theorem dX2_open_53 : decode cX2_open 53 = .ok (.dup, 1) := by decide +kernel
theorem dX2_open_54 : decode cX2_open 54 = .ok (.getfield 22, 3) := by decide +kernel
theorem dX2_open_57 : decode cX2_open 57 = .ok (.iconst 1, 1) := by decide +kernel
theorem dX2_open_58 : decode cX2_open 58 = .ok (.iadd, 1) := by decide +kernel
theorem dX2_open_59 : decode cX2_open 59 = .ok (.putfield 22, 3) := by decide +kernel
theorem dX2_open_62 : decode cX2_open 62 = .ok (.aload_n 0, 1) := by decide +kernel
theorem dX2_open_63 : decode cX2_open 63 = .ok (.iload_n 1, 1) := by decide +kernel
theorem dX2_open_64 : decode cX2_open 64 = .ok (.invokevirtual 38, 3) := by decide +kernel
theorem dX2_open_67 : decode cX2_open 67 = .ok (.iconst 0, 1) := by decide +kernel
theorem dX2_open_68 : decode cX2_open 68 = .ok (.ireturn, 1) := by decide +kernel
set_option maxRecDepth 20000 in
theorem ggX2_addByte_X1_isByte : GoodIn wsX2_addByte wsX1_isByte := goodIn_r _ [5] (by decide +kernel) (by decide +kernel)
set_option maxRecDepth 20000 in
theorem gX2_addByte_X1_isByte : GoodIn wsX2_addByte (va_wsS RX2 42 yX1_isByte wsX1_isByte) := goodIn_app (goodIn_of _ (by decide +kernel)) ggX2_addByte_X1_isByte
set_option maxRecDepth 20000 in
theorem ggX2_addByte_X2_openTag : GoodIn wsX2_addByte wsX2_openTag := goodIn_r _ [10, 1, 11, 12, 22, 23, 24, 25] (by decide +kernel) (by decide +kernel)
set_option maxRecDepth 20000 in
theorem gX2_addByte_X2_openTag : GoodIn wsX2_addByte (wsV RX2 45 RX2 yX2_openTag wsX2_openTag) := goodIn_app (goodIn_of _ (by decide +kernel)) ggX2_addByte_X2_openTag
set_option maxRecDepth 20000 in
theorem ggX2_addByte_X2_hasRoom : GoodIn wsX2_addByte wsX2_hasRoom := goodIn_r _ [16, 17, 22, 23, 24, 25] (by decide +kernel) (by decide +kernel)
set_option maxRecDepth 20000 in
theorem gX2_addByte_X2_hasRoom : GoodIn wsX2_addByte (wsV RX2 35 RX2 yX2_hasRoom wsX2_hasRoom) := goodIn_app (goodIn_of _ (by decide +kernel)) ggX2_addByte_X2_hasRoom
set_option maxRecDepth 20000 in
theorem ggX2_addByte_X2_append : GoodIn wsX2_addByte wsX2_append := goodIn_r _ [21, 17, 11, 22, 23, 24, 25] (by decide +kernel) (by decide +kernel)
set_option maxRecDepth 20000 in
theorem gX2_addByte_X2_append : GoodIn wsX2_addByte (wsV RX2 38 RX2 yX2_append wsX2_append) := goodIn_app (goodIn_of _ (by decide +kernel)) ggX2_addByte_X2_append
theorem dX2_addByte_0 : decode cX2_addByte 0 = .ok (.iload_n 1, 1) := by decide +kernel
theorem dX2_addByte_1 : decode cX2_addByte 1 = .ok (.invokestatic 42, 3) := by decide +kernel
theorem dX2_addByte_4 : decode cX2_addByte 4 = .ok (.ifCond .ne 5, 3) := by decide +kernel
theorem dX2_addByte_7 : decode cX2_addByte 7 = .ok (.iconst (-1), 1) := by decide +kernel
theorem dX2_addByte_8 : decode cX2_addByte 8 = .ok (.ireturn, 1) := by decide +kernel
theorem dX2_addByte_9 : decode cX2_addByte 9 = .ok (.aload_n 0, 1) := by decide +kernel
theorem dX2_addByte_10 : decode cX2_addByte 10 = .ok (.getfield 22, 3) := by decide +kernel
theorem dX2_addByte_13 : decode cX2_addByte 13 = .ok (.ifCond .eq 12, 3) := by decide +kernel
theorem dX2_addByte_16 : decode cX2_addByte 16 = .ok (.aload_n 0, 1) := by decide +kernel
theorem dX2_addByte_17 : decode cX2_addByte 17 = .ok (.invokevirtual 45, 3) := by decide +kernel
theorem dX2_addByte_20 : decode cX2_addByte 20 = .ok (.bipush 48, 2) := by decide +kernel
theorem dX2_addByte_22 : decode cX2_addByte 22 = .ok (.if_icmp .ne 6, 3) := by decide +kernel
theorem dX2_addByte_25 : decode cX2_addByte 25 = .ok (.bipush (-2), 2) := by decide +kernel
theorem dX2_addByte_27 : decode cX2_addByte 27 = .ok (.ireturn, 1) := by decide +kernel
theorem dX2_addByte_28 : decode cX2_addByte 28 = .ok (.aload_n 0, 1) := by decide +kernel
theorem dX2_addByte_29 : decode cX2_addByte 29 = .ok (.iconst 1, 1) := by decide +kernel
theorem dX2_addByte_30 : decode cX2_addByte 30 = .ok (.invokevirtual 35, 3) := by decide +kernel
theorem dX2_addByte_33 : decode cX2_addByte 33 = .ok (.ifCond .ne 6, 3) := by decide +kernel
theorem dX2_addByte_36 : decode cX2_addByte 36 = .ok (.bipush (-3), 2) := by decide +kernel
theorem dX2_addByte_38 : decode cX2_addByte 38 = .ok (.ireturn, 1) := by decide +kernel
theorem dX2_addByte_39 : decode cX2_addByte 39 = .ok (.aload_n 0, 1) := by decide +kernel
theorem dX2_addByte_40 : decode cX2_addByte 40 = .ok (.iload_n 1, 1) := by decide +kernel
theorem dX2_addByte_41 : decode cX2_addByte 41 = .ok (.invokevirtual 38, 3) := by decide +kernel
theorem dX2_addByte_44 : decode cX2_addByte 44 = .ok (.iconst 0, 1) := by decide +kernel
theorem dX2_addByte_45 : decode cX2_addByte 45 = .ok (.ireturn, 1) := by decide +kernel
set_option maxRecDepth 20000 in
theorem ggX2_addInteger_X2_openTag : GoodIn wsX2_addInteger wsX2_openTag := goodIn_r _ [5, 6, 7, 8, 25, 26, 27, 28] (by decide +kernel) (by decide +kernel)
set_option maxRecDepth 20000 in
theorem gX2_addInteger_X2_openTag : GoodIn wsX2_addInteger (wsV RX2 45 RX2 yX2_openTag wsX2_openTag) := goodIn_app (goodIn_of _ (by decide +kernel)) ggX2_addInteger_X2_openTag
set_option maxRecDepth 20000 in
theorem ggX2_addInteger_X2_openLength : GoodIn wsX2_addInteger wsX2_openLength := goodIn_r _ [12, 6, 13, 8, 25, 26, 27, 28] (by decide +kernel) (by decide +kernel)
set_option maxRecDepth 20000 in
theorem gX2_addInteger_X2_openLength : GoodIn wsX2_addInteger (wsV RX2 49 RX2 yX2_openLength wsX2_openLength) := goodIn_app (goodIn_of _ (by decide +kernel)) ggX2_addInteger_X2_openLength
set_option maxRecDepth 20000 in
theorem ggX2_addInteger_X2_integerSize : GoodIn wsX2_addInteger wsX2_integerSize := goodIn_r _ [16] (by decide +kernel) (by decide +kernel)
set_option maxRecDepth 20000 in
theorem gX2_addInteger_X2_integerSize : GoodIn wsX2_addInteger (va_wsS RX2 52 yX2_integerSize wsX2_integerSize) := goodIn_app (goodIn_of _ (by decide +kernel)) ggX2_addInteger_X2_integerSize
set_option maxRecDepth 20000 in
theorem ggX2_addInteger_X2_hasRoom : GoodIn wsX2_addInteger wsX2_hasRoom := goodIn_r _ [20, 13, 25, 26, 27, 28] (by decide +kernel) (by decide +kernel)
set_option maxRecDepth 20000 in
theorem gX2_addInteger_X2_hasRoom : GoodIn wsX2_addInteger (wsV RX2 35 RX2 yX2_hasRoom wsX2_hasRoom) := goodIn_app (goodIn_of _ (by decide +kernel)) ggX2_addInteger_X2_hasRoom
set_option maxRecDepth 20000 in
theorem ggX2_addInteger_X2_append : GoodIn wsX2_addInteger wsX2_append := goodIn_r _ [24, 13, 7, 25, 26, 27, 28] (by decide +kernel) (by decide +kernel)
set_option maxRecDepth 20000 in
theorem gX2_addInteger_X2_append : GoodIn wsX2_addInteger (wsV RX2 38 RX2 yX2_append wsX2_append) := goodIn_app (goodIn_of _ (by decide +kernel)) ggX2_addInteger_X2_append
theorem dX2_addInteger_0 : decode cX2_addInteger 0 = .ok (.aload_n 0, 1) := by decide +kernel
theorem dX2_addInteger_1 : decode cX2_addInteger 1 = .ok (.invokevirtual 45, 3) := by decide +kernel
theorem dX2_addInteger_4 : decode cX2_addInteger 4 = .ok (.iconst 2, 1) := by decide +kernel
theorem dX2_addInteger_5 : decode cX2_addInteger 5 = .ok (.if_icmp .ne 10, 3) := by decide +kernel
theorem dX2_addInteger_8 : decode cX2_addInteger 8 = .ok (.aload_n 0, 1) := by decide +kernel
theorem dX2_addInteger_9 : decode cX2_addInteger 9 = .ok (.invokevirtual 49, 3) := by decide +kernel
theorem dX2_addInteger_12 : decode cX2_addInteger 12 = .ok (.ifCond .le 6, 3) := by decide +kernel
theorem dX2_addInteger_15 : decode cX2_addInteger 15 = .ok (.bipush (-2), 2) := by decide +kernel
theorem dX2_addInteger_17 : decode cX2_addInteger 17 = .ok (.ireturn, 1) := by decide +kernel
theorem dX2_addInteger_18 : decode cX2_addInteger 18 = .ok (.iload_n 1, 1) := by decide +kernel
theorem dX2_addInteger_19 : decode cX2_addInteger 19 = .ok (.invokestatic 52, 3) := by decide +kernel
theorem dX2_addInteger_22 : decode cX2_addInteger 22 = .ok (.istore_n 2, 1) := by decide +kernel
theorem dX2_addInteger_23 : decode cX2_addInteger 23 = .ok (.aload_n 0, 1) := by decide +kernel
theorem dX2_addInteger_24 : decode cX2_addInteger 24 = .ok (.iload_n 2, 1) := by decide +kernel
theorem dX2_addInteger_25 : decode cX2_addInteger 25 = .ok (.invokevirtual 35, 3) := by decide +kernel
theorem dX2_addInteger_28 : decode cX2_addInteger 28 = .ok (.ifCond .ne 6, 3) := by decide +kernel
theorem dX2_addInteger_31 : decode cX2_addInteger 31 = .ok (.bipush (-3), 2) := by decide +kernel
theorem dX2_addInteger_33 : decode cX2_addInteger 33 = .ok (.ireturn, 1) := by decide +kernel
theorem dX2_addInteger_34 : decode cX2_addInteger 34 = .ok (.iload_n 2, 1) := by decide +kernel
theorem dX2_addInteger_35 : decode cX2_addInteger 35 = .ok (.iconst 1, 1) := by decide +kernel
theorem dX2_addInteger_36 : decode cX2_addInteger 36 = .ok (.isub, 1) := by decide +kernel
theorem dX2_addInteger_37 : decode cX2_addInteger 37 = .ok (.istore_n 3, 1) := by decide +kernel
theorem dX2_addInteger_38 : decode cX2_addInteger 38 = .ok (.iload_n 3, 1) := by decide +kernel
theorem dX2_addInteger_39 : decode cX2_addInteger 39 = .ok (.ifCond .lt 23, 3) := by decide +kernel
theorem dX2_addInteger_42 : decode cX2_addInteger 42 = .ok (.aload_n 0, 1) := by decide +kernel
theorem dX2_addInteger_43 : decode cX2_addInteger 43 = .ok (.iload_n 1, 1) := by decide +kernel
theorem dX2_addInteger_44 : decode cX2_addInteger 44 = .ok (.bipush 8, 2) := by decide +kernel
theorem dX2_addInteger_46 : decode cX2_addInteger 46 = .ok (.iload_n 3, 1) := by decide +kernel
theorem dX2_addInteger_47 : decode cX2_addInteger 47 = .ok (.imul, 1) := by decide +kernel
theorem dX2_addInteger_48 : decode cX2_addInteger 48 = .ok (.ishr, 1) := by decide +kernel
theorem dX2_addInteger_49 : decode cX2_addInteger 49 = .ok (.sipush 255, 3) := by decide +kernel
theorem dX2_addInteger_52 : decode cX2_addInteger 52 = .ok (.iand, 1) := by decide +kernel
theorem dX2_addInteger_53 : decode cX2_addInteger 53 = .ok (.invokevirtual 38, 3) := by decide +kernel
theorem dX2_addInteger_56 : decode cX2_addInteger 56 = .ok (.iinc 3 (-1), 3) := by decide +kernel
theorem dX2_addInteger_59 : decode cX2_addInteger 59 = .ok (.goto (-21), 3) := by decide +kernel
theorem dX2_addInteger_62 : decode cX2_addInteger 62 = .ok (.iconst 0, 1) := by decide +kernel
theorem dX2_addInteger_63 : decode cX2_addInteger 63 = .ok (.ireturn, 1) := by decide +kernel
set_option maxRecDepth 20000 in
theorem ggX2_addPart_X2_openTag : GoodIn wsX2_addPart wsX2_openTag := goodIn_r _ [5, 6, 7, 8, 21, 22, 23, 24] (by decide +kernel) (by decide +kernel)
set_option maxRecDepth 20000 in
theorem gX2_addPart_X2_openTag : GoodIn wsX2_addPart (wsV RX2 45 RX2 yX2_openTag wsX2_openTag) := goodIn_app (goodIn_of _ (by decide +kernel)) ggX2_addPart_X2_openTag
set_option maxRecDepth 20000 in
theorem ggX2_addPart_X2_partSize : GoodIn wsX2_addPart wsX2_partSize := goodIn_r _ [11] (by decide +kernel) (by decide +kernel)
set_option maxRecDepth 20000 in
theorem gX2_addPart_X2_partSize : GoodIn wsX2_addPart (va_wsS RX2 56 yX2_partSize wsX2_partSize) := goodIn_app (goodIn_of _ (by decide +kernel)) ggX2_addPart_X2_partSize
set_option maxRecDepth 20000 in
theorem ggX2_addPart_X2_hasRoom : GoodIn wsX2_addPart wsX2_hasRoom := goodIn_r _ [15, 16, 21, 22, 23, 24] (by decide +kernel) (by decide +kernel)
set_option maxRecDepth 20000 in
theorem gX2_addPart_X2_hasRoom : GoodIn wsX2_addPart (wsV RX2 35 RX2 yX2_hasRoom wsX2_hasRoom) := goodIn_app (goodIn_of _ (by decide +kernel)) ggX2_addPart_X2_hasRoom
set_option maxRecDepth 20000 in
theorem ggX2_addPart_X2_append : GoodIn wsX2_addPart wsX2_append := goodIn_r _ [20, 16, 7, 21, 22, 23, 24] (by decide +kernel) (by decide +kernel)
set_option maxRecDepth 20000 in
theorem gX2_addPart_X2_append : GoodIn wsX2_addPart (wsV RX2 38 RX2 yX2_append wsX2_append) := goodIn_app (goodIn_of _ (by decide +kernel)) ggX2_addPart_X2_append
theorem dX2_addPart_0 : decode cX2_addPart 0 = .ok (.iload_n 1, 1) := by decide +kernel
theorem dX2_addPart_1 : decode cX2_addPart 1 = .ok (.ifCond .ge 5, 3) := by decide +kernel
theorem dX2_addPart_4 : decode cX2_addPart 4 = .ok (.iconst (-1), 1) := by decide +kernel
theorem dX2_addPart_5 : decode cX2_addPart 5 = .ok (.ireturn, 1) := by decide +kernel
theorem dX2_addPart_6 : decode cX2_addPart 6 = .ok (.aload_n 0, 1) := by decide +kernel
theorem dX2_addPart_7 : decode cX2_addPart 7 = .ok (.invokevirtual 45, 3) := by decide +kernel
theorem dX2_addPart_10 : decode cX2_addPart 10 = .ok (.bipush 6, 2) := by decide +kernel
theorem dX2_addPart_12 : decode cX2_addPart 12 = .ok (.if_icmp .eq 6, 3) := by decide +kernel
theorem dX2_addPart_15 : decode cX2_addPart 15 = .ok (.bipush (-2), 2) := by decide +kernel
theorem dX2_addPart_17 : decode cX2_addPart 17 = .ok (.ireturn, 1) := by decide +kernel
theorem dX2_addPart_18 : decode cX2_addPart 18 = .ok (.iload_n 1, 1) := by decide +kernel
theorem dX2_addPart_19 : decode cX2_addPart 19 = .ok (.invokestatic 56, 3) := by decide +kernel
theorem dX2_addPart_22 : decode cX2_addPart 22 = .ok (.istore_n 2, 1) := by decide +kernel
theorem dX2_addPart_23 : decode cX2_addPart 23 = .ok (.aload_n 0, 1) := by decide +kernel
theorem dX2_addPart_24 : decode cX2_addPart 24 = .ok (.iload_n 2, 1) := by decide +kernel
theorem dX2_addPart_25 : decode cX2_addPart 25 = .ok (.invokevirtual 35, 3) := by decide +kernel
theorem dX2_addPart_28 : decode cX2_addPart 28 = .ok (.ifCond .ne 6, 3) := by decide +kernel
theorem dX2_addPart_31 : decode cX2_addPart 31 = .ok (.bipush (-3), 2) := by decide +kernel
theorem dX2_addPart_33 : decode cX2_addPart 33 = .ok (.ireturn, 1) := by decide +kernel
theorem dX2_addPart_34 : decode cX2_addPart 34 = .ok (.iload_n 2, 1) := by decide +kernel
theorem dX2_addPart_35 : decode cX2_addPart 35 = .ok (.iconst 1, 1) := by decide +kernel
theorem dX2_addPart_36 : decode cX2_addPart 36 = .ok (.isub, 1) := by decide +kernel
theorem dX2_addPart_37 : decode cX2_addPart 37 = .ok (.istore_n 3, 1) := by decide +kernel
theorem dX2_addPart_38 : decode cX2_addPart 38 = .ok (.iload_n 3, 1) := by decide +kernel
theorem dX2_addPart_39 : decode cX2_addPart 39 = .ok (.ifCond .lt 39, 3) := by decide +kernel
theorem dX2_addPart_42 : decode cX2_addPart 42 = .ok (.iload_n 1, 1) := by decide +kernel
theorem dX2_addPart_43 : decode cX2_addPart 43 = .ok (.bipush 7, 2) := by decide +kernel
theorem dX2_addPart_45 : decode cX2_addPart 45 = .ok (.iload_n 3, 1) := by decide +kernel
theorem dX2_addPart_46 : decode cX2_addPart 46 = .ok (.imul, 1) := by decide +kernel
theorem dX2_addPart_47 : decode cX2_addPart 47 = .ok (.ishr, 1) := by decide +kernel
theorem dX2_addPart_48 : decode cX2_addPart 48 = .ok (.bipush 127, 2) := by decide +kernel
theorem dX2_addPart_50 : decode cX2_addPart 50 = .ok (.iand, 1) := by decide +kernel
theorem dX2_addPart_51 : decode cX2_addPart 51 = .ok (.istore 4, 2) := by decide +kernel
theorem dX2_addPart_53 : decode cX2_addPart 53 = .ok (.aload_n 0, 1) := by decide +kernel
theorem dX2_addPart_54 : decode cX2_addPart 54 = .ok (.iload_n 3, 1) := by decide +kernel
theorem dX2_addPart_55 : decode cX2_addPart 55 = .ok (.ifCond .ne 8, 3) := by decide +kernel
theorem dX2_addPart_58 : decode cX2_addPart 58 = .ok (.iload 4, 2) := by decide +kernel
theorem dX2_addPart_60 : decode cX2_addPart 60 = .ok (.goto 9, 3) := by decide +kernel
theorem dX2_addPart_63 : decode cX2_addPart 63 = .ok (.iload 4, 2) := by decide +kernel
theorem dX2_addPart_65 : decode cX2_addPart 65 = .ok (.sipush 128, 3) := by decide +kernel
theorem dX2_addPart_68 : decode cX2_addPart 68 = .ok (.ior, 1) := by decide +kernel
theorem dX2_addPart_69 : decode cX2_addPart 69 = .ok (.invokevirtual 38, 3) := by decide +kernel
theorem dX2_addPart_72 : decode cX2_addPart 72 = .ok (.iinc 3 (-1), 3) := by decide +kernel
theorem dX2_addPart_75 : decode cX2_addPart 75 = .ok (.goto (-37), 3) := by decide +kernel
theorem dX2_addPart_78 : decode cX2_addPart 78 = .ok (.iconst 0, 1) := by decide +kernel
theorem dX2_addPart_79 : decode cX2_addPart 79 = .ok (.ireturn, 1) := by decide +kernel
set_option maxRecDepth 20000 in
theorem ggX2_close_X1_hold : GoodIn wsX2_close wsX1_hold := goodIn_r _ [8, 9, 10, 7, 11, 12, 13, 14, 15, 16, 17] (by decide +kernel) (by decide +kernel)
set_option maxRecDepth 20000 in
theorem gX2_close_X1_hold : GoodIn wsX2_close (va_wsS RX2 59 yX1_hold wsX1_hold) := goodIn_app (goodIn_of _ (by decide +kernel)) ggX2_close_X1_hold
set_option maxRecDepth 20000 in
theorem ggX2_close_X1_lengthSize : GoodIn wsX2_close wsX1_lengthSize := goodIn_r _ [20] (by decide +kernel) (by decide +kernel)
set_option maxRecDepth 20000 in
theorem gX2_close_X1_lengthSize : GoodIn wsX2_close (va_wsS RX2 63 yX1_lengthSize wsX1_lengthSize) := goodIn_app (goodIn_of _ (by decide +kernel)) ggX2_close_X1_lengthSize
set_option maxRecDepth 20000 in
theorem ggX2_close_X2_hasRoom : GoodIn wsX2_close wsX2_hasRoom := goodIn_r _ [25, 3, 34, 35, 36, 37] (by decide +kernel) (by decide +kernel)
set_option maxRecDepth 20000 in
theorem gX2_close_X2_hasRoom : GoodIn wsX2_close (wsV RX2 35 RX2 yX2_hasRoom wsX2_hasRoom) := goodIn_app (goodIn_of _ (by decide +kernel)) ggX2_close_X2_hasRoom
set_option maxRecDepth 20000 in
theorem ggX2_close_X2_makeGap : GoodIn wsX2_close wsX2_makeGap := goodIn_r _ [29, 3, 4, 34, 35, 36, 37] (by decide +kernel) (by decide +kernel)
set_option maxRecDepth 20000 in
theorem gX2_close_X2_makeGap : GoodIn wsX2_close (wsV RX2 66 RX2 yX2_makeGap wsX2_makeGap) := goodIn_app (goodIn_of _ (by decide +kernel)) ggX2_close_X2_makeGap
set_option maxRecDepth 20000 in
theorem ggX2_close_X2_writeLength : GoodIn wsX2_close wsX2_writeLength := goodIn_r _ [33, 4, 34, 35, 36, 37] (by decide +kernel) (by decide +kernel)
set_option maxRecDepth 20000 in
theorem gX2_close_X2_writeLength : GoodIn wsX2_close (wsV RX2 70 RX2 yX2_writeLength wsX2_writeLength) := goodIn_app (goodIn_of _ (by decide +kernel)) ggX2_close_X2_writeLength
theorem dX2_close_0 : decode cX2_close 0 = .ok (.aload_n 0, 1) := by decide +kernel
theorem dX2_close_1 : decode cX2_close 1 = .ok (.getfield 22, 3) := by decide +kernel
theorem dX2_close_4 : decode cX2_close 4 = .ok (.ifCond .ne 6, 3) := by decide +kernel
theorem dX2_close_7 : decode cX2_close 7 = .ok (.bipush (-2), 2) := by decide +kernel
theorem dX2_close_9 : decode cX2_close 9 = .ok (.ireturn, 1) := by decide +kernel
theorem dX2_close_10 : decode cX2_close 10 = .ok (.aload_n 0, 1) := by decide +kernel
theorem dX2_close_11 : decode cX2_close 11 = .ok (.getfield 19, 3) := by decide +kernel
theorem dX2_close_14 : decode cX2_close 14 = .ok (.aload_n 0, 1) := by decide +kernel
theorem dX2_close_15 : decode cX2_close 15 = .ok (.getfield 22, 3) := by decide +kernel
theorem dX2_close_18 : decode cX2_close 18 = .ok (.iconst 1, 1) := by decide +kernel
theorem dX2_close_19 : decode cX2_close 19 = .ok (.isub, 1) := by decide +kernel
theorem dX2_close_20 : decode cX2_close 20 = .ok (.iaload, 1) := by decide +kernel
theorem dX2_close_21 : decode cX2_close 21 = .ok (.istore_n 1, 1) := by decide +kernel
theorem dX2_close_22 : decode cX2_close 22 = .ok (.iload_n 1, 1) := by decide +kernel
theorem dX2_close_23 : decode cX2_close 23 = .ok (.iconst 1, 1) := by decide +kernel
theorem dX2_close_24 : decode cX2_close 24 = .ok (.iadd, 1) := by decide +kernel
theorem dX2_close_25 : decode cX2_close 25 = .ok (.istore_n 2, 1) := by decide +kernel
theorem dX2_close_26 : decode cX2_close 26 = .ok (.aload_n 0, 1) := by decide +kernel
theorem dX2_close_27 : decode cX2_close 27 = .ok (.getfield 15, 3) := by decide +kernel
theorem dX2_close_30 : decode cX2_close 30 = .ok (.iload_n 2, 1) := by decide +kernel
theorem dX2_close_31 : decode cX2_close 31 = .ok (.isub, 1) := by decide +kernel
theorem dX2_close_32 : decode cX2_close 32 = .ok (.istore_n 3, 1) := by decide +kernel
theorem dX2_close_33 : decode cX2_close 33 = .ok (.aload_n 0, 1) := by decide +kernel
theorem dX2_close_34 : decode cX2_close 34 = .ok (.getfield 9, 3) := by decide +kernel
theorem dX2_close_37 : decode cX2_close 37 = .ok (.iload_n 1, 1) := by decide +kernel
theorem dX2_close_38 : decode cX2_close 38 = .ok (.iaload, 1) := by decide +kernel
theorem dX2_close_39 : decode cX2_close 39 = .ok (.aload_n 0, 1) := by decide +kernel
theorem dX2_close_40 : decode cX2_close 40 = .ok (.getfield 9, 3) := by decide +kernel
theorem dX2_close_43 : decode cX2_close 43 = .ok (.iload_n 2, 1) := by decide +kernel
theorem dX2_close_44 : decode cX2_close 44 = .ok (.iload_n 3, 1) := by decide +kernel
theorem dX2_close_45 : decode cX2_close 45 = .ok (.invokestatic 59, 3) := by decide +kernel
theorem dX2_close_48 : decode cX2_close 48 = .ok (.ifCond .ne 21, 3) := by decide +kernel
theorem dX2_close_51 : decode cX2_close 51 = .ok (.aload_n 0, 1) := by decide +kernel
theorem dX2_close_52 : decode cX2_close 52 = .ok (.iload_n 1, 1) := by decide +kernel
theorem dX2_close_53 : decode cX2_close 53 = .ok (.putfield 15, 3) := by decide +kernel
theorem dX2_close_56 : decode cX2_close 56 = .ok (.aload_n 0, 1) := by decide +kernel
theorem dX2_close_57 : decode cX2_close 57 = .ok (.dup, 1) := by decide +kernel
theorem dX2_close_58 : decode cX2_close 58 = .ok (.getfield 22, 3) := by decide +kernel
theorem dX2_close_61 : decode cX2_close 61 = .ok (.iconst 1, 1) := by decide +kernel
theorem dX2_close_62 : decode cX2_close 62 = .ok (.isub, 1) := by decide +kernel
theorem dX2_close_63 : decode cX2_close 63 = .ok (.putfield 22, 3) := by decide +kernel
theorem dX2_close_66 : decode cX2_close 66 = .ok (.bipush (-4), 2) := by decide +kernel
theorem dX2_close_68 : decode cX2_close 68 = .ok (.ireturn, 1) := by decide +kernel
theorem dX2_close_69 : decode cX2_close 69 = .ok (.iload_n 3, 1) := by decide +kernel
theorem dX2_close_70 : decode cX2_close 70 = .ok (.invokestatic 63, 3) := by decide +kernel
theorem dX2_close_73 : decode cX2_close 73 = .ok (.istore 4, 2) := by decide +kernel
theorem dX2_close_75 : decode cX2_close 75 = .ok (.aload_n 0, 1) := by decide +kernel
theorem dX2_close_76 : decode cX2_close 76 = .ok (.iload 4, 2) := by decide +kernel
theorem dX2_close_78 : decode cX2_close 78 = .ok (.invokevirtual 35, 3) := by decide +kernel
theorem dX2_close_81 : decode cX2_close 81 = .ok (.ifCond .ne 6, 3) := by decide +kernel
theorem dX2_close_84 : decode cX2_close 84 = .ok (.bipush (-3), 2) := by decide +kernel
theorem dX2_close_86 : decode cX2_close 86 = .ok (.ireturn, 1) := by decide +kernel
theorem dX2_close_87 : decode cX2_close 87 = .ok (.aload_n 0, 1) := by decide +kernel
theorem dX2_close_88 : decode cX2_close 88 = .ok (.iload_n 2, 1) := by decide +kernel
theorem dX2_close_89 : decode cX2_close 89 = .ok (.iload 4, 2) := by decide +kernel
theorem dX2_close_91 : decode cX2_close 91 = .ok (.invokevirtual 66, 3) := by decide +kernel
theorem dX2_close_94 : decode cX2_close 94 = .ok (.aload_n 0, 1) := by decide +kernel
theorem dX2_close_95 : decode cX2_close 95 = .ok (.iload_n 2, 1) := by decide +kernel
theorem dX2_close_96 : decode cX2_close 96 = .ok (.iload_n 3, 1) := by decide +kernel
theorem dX2_close_97 : decode cX2_close 97 = .ok (.iload 4, 2) := by decide +kernel
theorem dX2_close_99 : decode cX2_close 99 = .ok (.invokevirtual 70, 3) := by decide +kernel
theorem dX2_close_102 : decode cX2_close 102 = .ok (.aload_n 0, 1) := by decide +kernel
theorem dX2_close_103 : decode cX2_close 103 = .ok (.dup, 1) := by decide +kernel
theorem dX2_close_104 : decode cX2_close 104 = .ok (.getfield 22, 3) := by decide +kernel
theorem dX2_close_107 : decode cX2_close 107 = .ok (.iconst 1, 1) := by decide +kernel
theorem dX2_close_108 : decode cX2_close 108 = .ok (.isub, 1) := by decide +kernel
theorem dX2_close_109 : decode cX2_close 109 = .ok (.putfield 22, 3) := by decide +kernel
theorem dX2_close_112 : decode cX2_close 112 = .ok (.iconst 0, 1) := by decide +kernel
theorem dX2_close_113 : decode cX2_close 113 = .ok (.ireturn, 1) := by decide +kernel
theorem dX2_byteAt_0 : decode cX2_byteAt 0 = .ok (.iload_n 1, 1) := by decide +kernel
theorem dX2_byteAt_1 : decode cX2_byteAt 1 = .ok (.ifCond .lt 20, 3) := by decide +kernel
theorem dX2_byteAt_4 : decode cX2_byteAt 4 = .ok (.iload_n 1, 1) := by decide +kernel
theorem dX2_byteAt_5 : decode cX2_byteAt 5 = .ok (.aload_n 0, 1) := by decide +kernel
theorem dX2_byteAt_6 : decode cX2_byteAt 6 = .ok (.getfield 15, 3) := by decide +kernel
theorem dX2_byteAt_9 : decode cX2_byteAt 9 = .ok (.if_icmp .ge 12, 3) := by decide +kernel
theorem dX2_byteAt_12 : decode cX2_byteAt 12 = .ok (.aload_n 0, 1) := by decide +kernel
theorem dX2_byteAt_13 : decode cX2_byteAt 13 = .ok (.getfield 9, 3) := by decide +kernel
theorem dX2_byteAt_16 : decode cX2_byteAt 16 = .ok (.iload_n 1, 1) := by decide +kernel
theorem dX2_byteAt_17 : decode cX2_byteAt 17 = .ok (.iaload, 1) := by decide +kernel
theorem dX2_byteAt_18 : decode cX2_byteAt 18 = .ok (.goto 4, 3) := by decide +kernel
theorem dX2_byteAt_21 : decode cX2_byteAt 21 = .ok (.iconst (-1), 1) := by decide +kernel
theorem dX2_byteAt_22 : decode cX2_byteAt 22 = .ok (.ireturn, 1) := by decide +kernel
set_option maxRecDepth 20000 in
theorem ggX2_canHoldValue_X2_openTag : GoodIn wsX2_canHoldValue wsX2_openTag := goodIn_r _ [7, 1, 8, 9, 10, 11, 12, 13] (by decide +kernel) (by decide +kernel)
set_option maxRecDepth 20000 in
theorem gX2_canHoldValue_X2_openTag : GoodIn wsX2_canHoldValue (wsV RX2 45 RX2 yX2_openTag wsX2_openTag) := goodIn_app (goodIn_of _ (by decide +kernel)) ggX2_canHoldValue_X2_openTag
theorem dX2_canHoldValue_0 : decode cX2_canHoldValue 0 = .ok (.aload_n 0, 1) := by decide +kernel
theorem dX2_canHoldValue_1 : decode cX2_canHoldValue 1 = .ok (.getfield 22, 3) := by decide +kernel
theorem dX2_canHoldValue_4 : decode cX2_canHoldValue 4 = .ok (.ifCond .ne 18, 3) := by decide +kernel
theorem dX2_canHoldValue_7 : decode cX2_canHoldValue 7 = .ok (.aload_n 0, 1) := by decide +kernel
theorem dX2_canHoldValue_8 : decode cX2_canHoldValue 8 = .ok (.getfield 15, 3) := by decide +kernel
theorem dX2_canHoldValue_11 : decode cX2_canHoldValue 11 = .ok (.ifCond .ne 7, 3) := by decide +kernel
theorem dX2_canHoldValue_14 : decode cX2_canHoldValue 14 = .ok (.iconst 1, 1) := by decide +kernel
theorem dX2_canHoldValue_15 : decode cX2_canHoldValue 15 = .ok (.goto 21, 3) := by decide +kernel
theorem dX2_canHoldValue_18 : decode cX2_canHoldValue 18 = .ok (.iconst 0, 1) := by decide +kernel
theorem dX2_canHoldValue_19 : decode cX2_canHoldValue 19 = .ok (.goto 17, 3) := by decide +kernel
theorem dX2_canHoldValue_22 : decode cX2_canHoldValue 22 = .ok (.aload_n 0, 1) := by decide +kernel
theorem dX2_canHoldValue_23 : decode cX2_canHoldValue 23 = .ok (.invokevirtual 45, 3) := by decide +kernel
theorem dX2_canHoldValue_26 : decode cX2_canHoldValue 26 = .ok (.bipush 48, 2) := by decide +kernel
theorem dX2_canHoldValue_28 : decode cX2_canHoldValue 28 = .ok (.if_icmp .ne 7, 3) := by decide +kernel
theorem dX2_canHoldValue_31 : decode cX2_canHoldValue 31 = .ok (.iconst 1, 1) := by decide +kernel
theorem dX2_canHoldValue_32 : decode cX2_canHoldValue 32 = .ok (.goto 4, 3) := by decide +kernel
theorem dX2_canHoldValue_35 : decode cX2_canHoldValue 35 = .ok (.iconst 0, 1) := by decide +kernel
theorem dX2_canHoldValue_36 : decode cX2_canHoldValue 36 = .ok (.ireturn, 1) := by decide +kernel
theorem dX2_openTag_0 : decode cX2_openTag 0 = .ok (.aload_n 0, 1) := by decide +kernel
theorem dX2_openTag_1 : decode cX2_openTag 1 = .ok (.getfield 22, 3) := by decide +kernel
theorem dX2_openTag_4 : decode cX2_openTag 4 = .ok (.ifCond .ne 7, 3) := by decide +kernel
theorem dX2_openTag_7 : decode cX2_openTag 7 = .ok (.iconst (-1), 1) := by decide +kernel
theorem dX2_openTag_8 : decode cX2_openTag 8 = .ok (.goto 19, 3) := by decide +kernel
theorem dX2_openTag_11 : decode cX2_openTag 11 = .ok (.aload_n 0, 1) := by decide +kernel
theorem dX2_openTag_12 : decode cX2_openTag 12 = .ok (.getfield 9, 3) := by decide +kernel
theorem dX2_openTag_15 : decode cX2_openTag 15 = .ok (.aload_n 0, 1) := by decide +kernel
theorem dX2_openTag_16 : decode cX2_openTag 16 = .ok (.getfield 19, 3) := by decide +kernel
theorem dX2_openTag_19 : decode cX2_openTag 19 = .ok (.aload_n 0, 1) := by decide +kernel
theorem dX2_openTag_20 : decode cX2_openTag 20 = .ok (.getfield 22, 3) := by decide +kernel
theorem dX2_openTag_23 : decode cX2_openTag 23 = .ok (.iconst 1, 1) := by decide +kernel
theorem dX2_openTag_24 : decode cX2_openTag 24 = .ok (.isub, 1) := by decide +kernel
theorem dX2_openTag_25 : decode cX2_openTag 25 = .ok (.iaload, 1) := by decide +kernel
theorem dX2_openTag_26 : decode cX2_openTag 26 = .ok (.iaload, 1) := by decide +kernel
theorem dX2_openTag_27 : decode cX2_openTag 27 = .ok (.ireturn, 1) := by decide +kernel
theorem dX2_openLength_0 : decode cX2_openLength 0 = .ok (.aload_n 0, 1) := by decide +kernel
theorem dX2_openLength_1 : decode cX2_openLength 1 = .ok (.getfield 22, 3) := by decide +kernel
theorem dX2_openLength_4 : decode cX2_openLength 4 = .ok (.ifCond .ne 7, 3) := by decide +kernel
theorem dX2_openLength_7 : decode cX2_openLength 7 = .ok (.iconst 0, 1) := by decide +kernel
theorem dX2_openLength_8 : decode cX2_openLength 8 = .ok (.goto 21, 3) := by decide +kernel
theorem dX2_openLength_11 : decode cX2_openLength 11 = .ok (.aload_n 0, 1) := by decide +kernel
theorem dX2_openLength_12 : decode cX2_openLength 12 = .ok (.getfield 15, 3) := by decide +kernel
theorem dX2_openLength_15 : decode cX2_openLength 15 = .ok (.aload_n 0, 1) := by decide +kernel
theorem dX2_openLength_16 : decode cX2_openLength 16 = .ok (.getfield 19, 3) := by decide +kernel
theorem dX2_openLength_19 : decode cX2_openLength 19 = .ok (.aload_n 0, 1) := by decide +kernel
theorem dX2_openLength_20 : decode cX2_openLength 20 = .ok (.getfield 22, 3) := by decide +kernel
theorem dX2_openLength_23 : decode cX2_openLength 23 = .ok (.iconst 1, 1) := by decide +kernel
theorem dX2_openLength_24 : decode cX2_openLength 24 = .ok (.isub, 1) := by decide +kernel
theorem dX2_openLength_25 : decode cX2_openLength 25 = .ok (.iaload, 1) := by decide +kernel
theorem dX2_openLength_26 : decode cX2_openLength 26 = .ok (.isub, 1) := by decide +kernel
theorem dX2_openLength_27 : decode cX2_openLength 27 = .ok (.iconst 1, 1) := by decide +kernel
theorem dX2_openLength_28 : decode cX2_openLength 28 = .ok (.isub, 1) := by decide +kernel
theorem dX2_openLength_29 : decode cX2_openLength 29 = .ok (.ireturn, 1) := by decide +kernel
theorem dX2_hasRoom_0 : decode cX2_hasRoom 0 = .ok (.aload_n 0, 1) := by decide +kernel
theorem dX2_hasRoom_1 : decode cX2_hasRoom 1 = .ok (.getfield 15, 3) := by decide +kernel
theorem dX2_hasRoom_4 : decode cX2_hasRoom 4 = .ok (.iload_n 1, 1) := by decide +kernel
theorem dX2_hasRoom_5 : decode cX2_hasRoom 5 = .ok (.iadd, 1) := by decide +kernel
theorem dX2_hasRoom_6 : decode cX2_hasRoom 6 = .ok (.sipush 300, 3) := by decide +kernel
theorem dX2_hasRoom_9 : decode cX2_hasRoom 9 = .ok (.if_icmp .gt 7, 3) := by decide +kernel
theorem dX2_hasRoom_12 : decode cX2_hasRoom 12 = .ok (.iconst 1, 1) := by decide +kernel
theorem dX2_hasRoom_13 : decode cX2_hasRoom 13 = .ok (.goto 4, 3) := by decide +kernel
theorem dX2_hasRoom_16 : decode cX2_hasRoom 16 = .ok (.iconst 0, 1) := by decide +kernel
theorem dX2_hasRoom_17 : decode cX2_hasRoom 17 = .ok (.ireturn, 1) := by decide +kernel
theorem dX2_append_0 : decode cX2_append 0 = .ok (.aload_n 0, 1) := by decide +kernel
theorem dX2_append_1 : decode cX2_append 1 = .ok (.getfield 15, 3) := by decide +kernel
theorem dX2_append_4 : decode cX2_append 4 = .ok (.sipush 300, 3) := by decide +kernel
theorem dX2_append_7 : decode cX2_append 7 = .ok (.if_icmp .ge 23, 3) := by decide +kernel
theorem dX2_append_10 : decode cX2_append 10 = .ok (.aload_n 0, 1) := by decide +kernel
theorem dX2_append_11 : decode cX2_append 11 = .ok (.getfield 9, 3) := by decide +kernel
theorem dX2_append_14 : decode cX2_append 14 = .ok (.aload_n 0, 1) := by decide +kernel
theorem dX2_append_15 : decode cX2_append 15 = .ok (.getfield 15, 3) := by decide +kernel
theorem dX2_append_18 : decode cX2_append 18 = .ok (.iload_n 1, 1) := by decide +kernel
theorem dX2_append_19 : decode cX2_append 19 = .ok (.iastore, 1) := by decide +kernel
theorem dX2_append_20 : decode cX2_append 20 = .ok (.aload_n 0, 1) := by decide +kernel
theorem dX2_append_21 : decode cX2_append 21 = .ok (.dup, 1) := by decide +kernel
theorem dX2_append_22 : decode cX2_append 22 = .ok (.getfield 15, 3) := by decide +kernel
theorem dX2_append_25 : decode cX2_append 25 = .ok (.iconst 1, 1) := by decide +kernel
theorem dX2_append_26 : decode cX2_append 26 = .ok (.iadd, 1) := by decide +kernel
theorem dX2_append_27 : decode cX2_append 27 = .ok (.putfield 15, 3) := by decide +kernel
theorem dX2_append_30 : decode cX2_append 30 = .ok (.return_, 1) := by decide +kernel
theorem dX2_integerSize_0 : decode cX2_integerSize 0 = .ok (.iconst 1, 1) := by decide +kernel
theorem dX2_integerSize_1 : decode cX2_integerSize 1 = .ok (.istore_n 1, 1) := by decide +kernel
theorem dX2_integerSize_2 : decode cX2_integerSize 2 = .ok (.iload_n 1, 1) := by decide +kernel
theorem dX2_integerSize_3 : decode cX2_integerSize 3 = .ok (.iconst 4, 1) := by decide +kernel
theorem dX2_integerSize_4 : decode cX2_integerSize 4 = .ok (.if_icmp .ge 24, 3) := by decide +kernel
theorem dX2_integerSize_7 : decode cX2_integerSize 7 = .ok (.iload_n 0, 1) := by decide +kernel
theorem dX2_integerSize_8 : decode cX2_integerSize 8 = .ok (.bipush 8, 2) := by decide +kernel
theorem dX2_integerSize_10 : decode cX2_integerSize 10 = .ok (.iload_n 1, 1) := by decide +kernel
theorem dX2_integerSize_11 : decode cX2_integerSize 11 = .ok (.imul, 1) := by decide +kernel
theorem dX2_integerSize_12 : decode cX2_integerSize 12 = .ok (.iconst 1, 1) := by decide +kernel
theorem dX2_integerSize_13 : decode cX2_integerSize 13 = .ok (.isub, 1) := by decide +kernel
theorem dX2_integerSize_14 : decode cX2_integerSize 14 = .ok (.ishr, 1) := by decide +kernel
theorem dX2_integerSize_15 : decode cX2_integerSize 15 = .ok (.iload_n 0, 1) := by decide +kernel
theorem dX2_integerSize_16 : decode cX2_integerSize 16 = .ok (.bipush 31, 2) := by decide +kernel
theorem dX2_integerSize_18 : decode cX2_integerSize 18 = .ok (.ishr, 1) := by decide +kernel
theorem dX2_integerSize_19 : decode cX2_integerSize 19 = .ok (.if_icmp .eq 9, 3) := by decide +kernel
theorem dX2_integerSize_22 : decode cX2_integerSize 22 = .ok (.iinc 1 1, 3) := by decide +kernel
theorem dX2_integerSize_25 : decode cX2_integerSize 25 = .ok (.goto (-23), 3) := by decide +kernel
theorem dX2_integerSize_28 : decode cX2_integerSize 28 = .ok (.iload_n 1, 1) := by decide +kernel
theorem dX2_integerSize_29 : decode cX2_integerSize 29 = .ok (.ireturn, 1) := by decide +kernel
theorem dX2_partSize_0 : decode cX2_partSize 0 = .ok (.iconst 1, 1) := by decide +kernel
theorem dX2_partSize_1 : decode cX2_partSize 1 = .ok (.istore_n 1, 1) := by decide +kernel
theorem dX2_partSize_2 : decode cX2_partSize 2 = .ok (.iload_n 1, 1) := by decide +kernel
theorem dX2_partSize_3 : decode cX2_partSize 3 = .ok (.iconst 5, 1) := by decide +kernel
theorem dX2_partSize_4 : decode cX2_partSize 4 = .ok (.if_icmp .ge 18, 3) := by decide +kernel
theorem dX2_partSize_7 : decode cX2_partSize 7 = .ok (.iload_n 0, 1) := by decide +kernel
theorem dX2_partSize_8 : decode cX2_partSize 8 = .ok (.bipush 7, 2) := by decide +kernel
theorem dX2_partSize_10 : decode cX2_partSize 10 = .ok (.iload_n 1, 1) := by decide +kernel
theorem dX2_partSize_11 : decode cX2_partSize 11 = .ok (.imul, 1) := by decide +kernel
theorem dX2_partSize_12 : decode cX2_partSize 12 = .ok (.ishr, 1) := by decide +kernel
theorem dX2_partSize_13 : decode cX2_partSize 13 = .ok (.ifCond .eq 9, 3) := by decide +kernel
theorem dX2_partSize_16 : decode cX2_partSize 16 = .ok (.iinc 1 1, 3) := by decide +kernel
theorem dX2_partSize_19 : decode cX2_partSize 19 = .ok (.goto (-17), 3) := by decide +kernel
theorem dX2_partSize_22 : decode cX2_partSize 22 = .ok (.iload_n 1, 1) := by decide +kernel
theorem dX2_partSize_23 : decode cX2_partSize 23 = .ok (.ireturn, 1) := by decide +kernel
theorem dX2_makeGap_0 : decode cX2_makeGap 0 = .ok (.aload_n 0, 1) := by decide +kernel
theorem dX2_makeGap_1 : decode cX2_makeGap 1 = .ok (.getfield 15, 3) := by decide +kernel
theorem dX2_makeGap_4 : decode cX2_makeGap 4 = .ok (.iconst 1, 1) := by decide +kernel
theorem dX2_makeGap_5 : decode cX2_makeGap 5 = .ok (.isub, 1) := by decide +kernel
theorem dX2_makeGap_6 : decode cX2_makeGap 6 = .ok (.istore_n 3, 1) := by decide +kernel
theorem dX2_makeGap_7 : decode cX2_makeGap 7 = .ok (.iload_n 3, 1) := by decide +kernel
theorem dX2_makeGap_8 : decode cX2_makeGap 8 = .ok (.iload_n 1, 1) := by decide +kernel
theorem dX2_makeGap_9 : decode cX2_makeGap 9 = .ok (.if_icmp .lt 23, 3) := by decide +kernel
theorem dX2_makeGap_12 : decode cX2_makeGap 12 = .ok (.aload_n 0, 1) := by decide +kernel
theorem dX2_makeGap_13 : decode cX2_makeGap 13 = .ok (.getfield 9, 3) := by decide +kernel
theorem dX2_makeGap_16 : decode cX2_makeGap 16 = .ok (.iload_n 3, 1) := by decide +kernel
theorem dX2_makeGap_17 : decode cX2_makeGap 17 = .ok (.iload_n 2, 1) := by decide +kernel
theorem dX2_makeGap_18 : decode cX2_makeGap 18 = .ok (.iadd, 1) := by decide +kernel
theorem dX2_makeGap_19 : decode cX2_makeGap 19 = .ok (.aload_n 0, 1) := by decide +kernel
theorem dX2_makeGap_20 : decode cX2_makeGap 20 = .ok (.getfield 9, 3) := by decide +kernel
theorem dX2_makeGap_23 : decode cX2_makeGap 23 = .ok (.iload_n 3, 1) := by decide +kernel
theorem dX2_makeGap_24 : decode cX2_makeGap 24 = .ok (.iaload, 1) := by decide +kernel
theorem dX2_makeGap_25 : decode cX2_makeGap 25 = .ok (.iastore, 1) := by decide +kernel
theorem dX2_makeGap_26 : decode cX2_makeGap 26 = .ok (.iinc 3 (-1), 3) := by decide +kernel
theorem dX2_makeGap_29 : decode cX2_makeGap 29 = .ok (.goto (-22), 3) := by decide +kernel
theorem dX2_makeGap_32 : decode cX2_makeGap 32 = .ok (.aload_n 0, 1) := by decide +kernel
theorem dX2_makeGap_33 : decode cX2_makeGap 33 = .ok (.dup, 1) := by decide +kernel
theorem dX2_makeGap_34 : decode cX2_makeGap 34 = .ok (.getfield 15, 3) := by decide +kernel
theorem dX2_makeGap_37 : decode cX2_makeGap 37 = .ok (.iload_n 2, 1) := by decide +kernel
theorem dX2_makeGap_38 : decode cX2_makeGap 38 = .ok (.iadd, 1) := by decide +kernel
theorem dX2_makeGap_39 : decode cX2_makeGap 39 = .ok (.putfield 15, 3) := by decide +kernel
theorem dX2_makeGap_42 : decode cX2_makeGap 42 = .ok (.return_, 1) := by decide +kernel
theorem dX2_writeLength_0 : decode cX2_writeLength 0 = .ok (.iload_n 3, 1) := by decide +kernel
theorem dX2_writeLength_1 : decode cX2_writeLength 1 = .ok (.iconst 1, 1) := by decide +kernel
theorem dX2_writeLength_2 : decode cX2_writeLength 2 = .ok (.if_icmp .ne 11, 3) := by decide +kernel
theorem dX2_writeLength_5 : decode cX2_writeLength 5 = .ok (.aload_n 0, 1) := by decide +kernel
theorem dX2_writeLength_6 : decode cX2_writeLength 6 = .ok (.getfield 9, 3) := by decide +kernel
theorem dX2_writeLength_9 : decode cX2_writeLength 9 = .ok (.iload_n 1, 1) := by decide +kernel
theorem dX2_writeLength_10 : decode cX2_writeLength 10 = .ok (.iload_n 2, 1) := by decide +kernel
theorem dX2_writeLength_11 : decode cX2_writeLength 11 = .ok (.iastore, 1) := by decide +kernel
theorem dX2_writeLength_12 : decode cX2_writeLength 12 = .ok (.return_, 1) := by decide +kernel
theorem dX2_writeLength_13 : decode cX2_writeLength 13 = .ok (.iload_n 3, 1) := by decide +kernel
theorem dX2_writeLength_14 : decode cX2_writeLength 14 = .ok (.iconst 1, 1) := by decide +kernel
theorem dX2_writeLength_15 : decode cX2_writeLength 15 = .ok (.isub, 1) := by decide +kernel
theorem dX2_writeLength_16 : decode cX2_writeLength 16 = .ok (.istore 4, 2) := by decide +kernel
theorem dX2_writeLength_18 : decode cX2_writeLength 18 = .ok (.aload_n 0, 1) := by decide +kernel
theorem dX2_writeLength_19 : decode cX2_writeLength 19 = .ok (.getfield 9, 3) := by decide +kernel
theorem dX2_writeLength_22 : decode cX2_writeLength 22 = .ok (.iload_n 1, 1) := by decide +kernel
theorem dX2_writeLength_23 : decode cX2_writeLength 23 = .ok (.sipush 128, 3) := by decide +kernel
theorem dX2_writeLength_26 : decode cX2_writeLength 26 = .ok (.iload 4, 2) := by decide +kernel
theorem dX2_writeLength_28 : decode cX2_writeLength 28 = .ok (.iadd, 1) := by decide +kernel
theorem dX2_writeLength_29 : decode cX2_writeLength 29 = .ok (.iastore, 1) := by decide +kernel
theorem dX2_writeLength_30 : decode cX2_writeLength 30 = .ok (.iconst 1, 1) := by decide +kernel
theorem dX2_writeLength_31 : decode cX2_writeLength 31 = .ok (.istore 5, 2) := by decide +kernel
theorem dX2_writeLength_33 : decode cX2_writeLength 33 = .ok (.iload 5, 2) := by decide +kernel
theorem dX2_writeLength_35 : decode cX2_writeLength 35 = .ok (.iload 4, 2) := by decide +kernel
theorem dX2_writeLength_37 : decode cX2_writeLength 37 = .ok (.if_icmp .gt 32, 3) := by decide +kernel
theorem dX2_writeLength_40 : decode cX2_writeLength 40 = .ok (.aload_n 0, 1) := by decide +kernel
theorem dX2_writeLength_41 : decode cX2_writeLength 41 = .ok (.getfield 9, 3) := by decide +kernel
theorem dX2_writeLength_44 : decode cX2_writeLength 44 = .ok (.iload_n 1, 1) := by decide +kernel
theorem dX2_writeLength_45 : decode cX2_writeLength 45 = .ok (.iload 5, 2) := by decide +kernel
theorem dX2_writeLength_47 : decode cX2_writeLength 47 = .ok (.iadd, 1) := by decide +kernel
theorem dX2_writeLength_48 : decode cX2_writeLength 48 = .ok (.iload_n 2, 1) := by decide +kernel
theorem dX2_writeLength_49 : decode cX2_writeLength 49 = .ok (.bipush 8, 2) := by decide +kernel
theorem dX2_writeLength_51 : decode cX2_writeLength 51 = .ok (.iload 4, 2) := by decide +kernel
theorem dX2_writeLength_53 : decode cX2_writeLength 53 = .ok (.iload 5, 2) := by decide +kernel
theorem dX2_writeLength_55 : decode cX2_writeLength 55 = .ok (.isub, 1) := by decide +kernel
theorem dX2_writeLength_56 : decode cX2_writeLength 56 = .ok (.imul, 1) := by decide +kernel
theorem dX2_writeLength_57 : decode cX2_writeLength 57 = .ok (.ishr, 1) := by decide +kernel
theorem dX2_writeLength_58 : decode cX2_writeLength 58 = .ok (.sipush 255, 3) := by decide +kernel
theorem dX2_writeLength_61 : decode cX2_writeLength 61 = .ok (.iand, 1) := by decide +kernel
theorem dX2_writeLength_62 : decode cX2_writeLength 62 = .ok (.iastore, 1) := by decide +kernel
theorem dX2_writeLength_63 : decode cX2_writeLength 63 = .ok (.iinc 5 1, 3) := by decide +kernel
theorem dX2_writeLength_66 : decode cX2_writeLength 66 = .ok (.goto (-33), 3) := by decide +kernel
theorem dX2_writeLength_69 : decode cX2_writeLength 69 = .ok (.return_, 1) := by decide +kernel
