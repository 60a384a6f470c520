set_option maxRecDepth 20000 in
theorem ggX3_init_X0_init : GoodIn wsX3_init wsX0_init := goodIn_r _ [13, 14, 2, 3, 15, 16, 17, 18, 19, 20, 21, 22, 23, 24, 25, 33, 34, 35, 36, 37, 38, 39, 40, 41, 42] (by decide +kernel) (by decide +kernel)
set_option maxRecDepth 20000 in
theorem gX3_init_X0_init_n9 : GoodIn wsX3_init (wsX0_init) := ggX3_init_X0_init
set_option maxRecDepth 20000 in
theorem ggX3_init_X2_init : GoodIn wsX3_init wsX2_init := goodIn_r _ [27, 28, 2, 3, 15, 29, 30, 31, 32, 45, 46, 47, 48] (by decide +kernel) (by decide +kernel)
set_option maxRecDepth 20000 in
theorem gX3_init_X2_init_n18 : GoodIn wsX3_init (wsX2_init) := ggX3_init_X2_init
theorem dX3_init_0 : decode cX3_init 0 = .ok (.aload_n 0, 1) := by decide +kernel
theorem dX3_init_1 : decode cX3_init 1 = .ok (.invokespecial 1, 3) := by decide +kernel
theorem dX3_init_4 : decode cX3_init 4 = .ok (.aload_n 0, 1) := by decide +kernel
theorem dX3_init_5 : decode cX3_init 5 = .ok (.new 7, 3) := by decide +kernel
theorem dX3_init_8 : decode cX3_init 8 = .ok (.dup, 1) := by decide +kernel
theorem dX3_init_9 : decode cX3_init 9 = .ok (.invokespecial 9, 3) := by decide +kernel
theorem dX3_init_12 : decode cX3_init 12 = .ok (.putfield 10, 3) := by decide +kernel
theorem dX3_init_15 : decode cX3_init 15 = .ok (.aload_n 0, 1) := by decide +kernel
theorem dX3_init_16 : decode cX3_init 16 = .ok (.new 16, 3) := by decide +kernel
theorem dX3_init_19 : decode cX3_init 19 = .ok (.dup, 1) := by decide +kernel
theorem dX3_init_20 : decode cX3_init 20 = .ok (.invokespecial 18, 3) := by decide +kernel
theorem dX3_init_23 : decode cX3_init 23 = .ok (.putfield 19, 3) := by decide +kernel
theorem dX3_init_26 : decode cX3_init 26 = .ok (.return_, 1) := by decide +kernel
set_option maxRecDepth 20000 in
theorem ggX3_feed_X0_addByte : GoodIn wsX3_feed wsX0_addByte := goodIn_r _ [6, 7, 8, 9, 10, 11, 12, 13, 16, 17, 18, 19, 20, 21, 22, 23, 24, 25] (by decide +kernel) (by decide +kernel)
set_option maxRecDepth 20000 in
theorem gX3_feed_X0_addByte : GoodIn wsX3_feed (wsV RX3 23 RX0 yX0_addByte wsX0_addByte) := goodIn_app (goodIn_of _ (by decide +kernel)) ggX3_feed_X0_addByte
theorem dX3_feed_0 : decode cX3_feed 0 = .ok (.aload_n 0, 1) := by decide +kernel
theorem dX3_feed_1 : decode cX3_feed 1 = .ok (.getfield 10, 3) := by decide +kernel
theorem dX3_feed_4 : decode cX3_feed 4 = .ok (.iload_n 1, 1) := by decide +kernel
theorem dX3_feed_5 : decode cX3_feed 5 = .ok (.invokevirtual 23, 3) := by decide +kernel
theorem dX3_feed_8 : decode cX3_feed 8 = .ok (.ireturn, 1) := by decide +kernel
set_option maxRecDepth 20000 in
theorem ggX3_parse_X0_readRow : GoodIn wsX3_parse wsX0_readRow := goodIn_r _ [6, 7, 8, 9, 10, 11, 12, 5, 13, 14, 15, 16, 17, 18, 19, 20, 21, 22, 23, 24, 25, 26, 27, 28, 29, 30, 31, 32, 33, 34, 35, 36, 37, 38, 39, 40, 41, 42, 43, 44, 45, 46, 47, 48, 49, 50, 51, 52, 53, 54, 55, 56, 57, 58, 59, 60, 61, 62, 63, 64, 65, 66, 67, 68, 69, 70, 71, 72, 73, 74, 75, 76, 77, 78, 79, 80, 81, 82, 83, 86, 87, 88, 89, 90, 91, 92, 93, 94, 95] (by decide +kernel) (by decide +kernel)
set_option maxRecDepth 20000 in
theorem gX3_parse_X0_readRow : GoodIn wsX3_parse (wsV RX3 27 RX0 yX0_readRow wsX0_readRow) := goodIn_app (goodIn_of _ (by decide +kernel)) ggX3_parse_X0_readRow
theorem dX3_parse_0 : decode cX3_parse 0 = .ok (.aload_n 0, 1) := by decide +kernel
theorem dX3_parse_1 : decode cX3_parse 1 = .ok (.getfield 10, 3) := by decide +kernel
theorem dX3_parse_4 : decode cX3_parse 4 = .ok (.invokevirtual 27, 3) := by decide +kernel
theorem dX3_parse_7 : decode cX3_parse 7 = .ok (.ireturn, 1) := by decide +kernel
theorem dX3_offence_0 : decode cX3_offence 0 = .ok (.aload_n 0, 1) := by decide +kernel
theorem dX3_offence_1 : decode cX3_offence 1 = .ok (.getfield 10, 3) := by decide +kernel
theorem dX3_offence_4 : decode cX3_offence 4 = .ok (.getfield 31, 3) := by decide +kernel
theorem dX3_offence_7 : decode cX3_offence 7 = .ok (.ireturn, 1) := by decide +kernel
theorem dX3_nodeCount_0 : decode cX3_nodeCount 0 = .ok (.aload_n 0, 1) := by decide +kernel
theorem dX3_nodeCount_1 : decode cX3_nodeCount 1 = .ok (.getfield 10, 3) := by decide +kernel
theorem dX3_nodeCount_4 : decode cX3_nodeCount 4 = .ok (.getfield 35, 3) := by decide +kernel
theorem dX3_nodeCount_7 : decode cX3_nodeCount 7 = .ok (.ireturn, 1) := by decide +kernel
set_option maxRecDepth 20000 in
theorem ggX3_tagOf_X0_ofNode : GoodIn wsX3_tagOf wsX0_ofNode := goodIn_r _ [6, 7, 8, 9, 5, 10, 11, 14, 15, 16, 17, 18, 19, 20, 21, 22, 23] (by decide +kernel) (by decide +kernel)
set_option maxRecDepth 20000 in
theorem gX3_tagOf_X0_ofNode : GoodIn wsX3_tagOf (wsV RX3 42 RX0 yX0_ofNode wsX0_ofNode) := goodIn_app (goodIn_of _ (by decide +kernel)) ggX3_tagOf_X0_ofNode
theorem dX3_tagOf_0 : decode cX3_tagOf 0 = .ok (.aload_n 0, 1) := by decide +kernel
theorem dX3_tagOf_1 : decode cX3_tagOf 1 = .ok (.getfield 10, 3) := by decide +kernel
theorem dX3_tagOf_4 : decode cX3_tagOf 4 = .ok (.aload_n 0, 1) := by decide +kernel
theorem dX3_tagOf_5 : decode cX3_tagOf 5 = .ok (.getfield 10, 3) := by decide +kernel
theorem dX3_tagOf_8 : decode cX3_tagOf 8 = .ok (.getfield 38, 3) := by decide +kernel
theorem dX3_tagOf_11 : decode cX3_tagOf 11 = .ok (.iload_n 1, 1) := by decide +kernel
theorem dX3_tagOf_12 : decode cX3_tagOf 12 = .ok (.invokevirtual 42, 3) := by decide +kernel
theorem dX3_tagOf_15 : decode cX3_tagOf 15 = .ok (.ireturn, 1) := by decide +kernel
set_option maxRecDepth 20000 in
theorem ggX3_contentAt_X0_ofNode : GoodIn wsX3_contentAt wsX0_ofNode := goodIn_r _ [6, 7, 8, 9, 5, 10, 11, 14, 15, 16, 17, 18, 19, 20, 21, 22, 23] (by decide +kernel) (by decide +kernel)
set_option maxRecDepth 20000 in
theorem gX3_contentAt_X0_ofNode : GoodIn wsX3_contentAt (wsV RX3 42 RX0 yX0_ofNode wsX0_ofNode) := goodIn_app (goodIn_of _ (by decide +kernel)) ggX3_contentAt_X0_ofNode
theorem dX3_contentAt_0 : decode cX3_contentAt 0 = .ok (.aload_n 0, 1) := by decide +kernel
theorem dX3_contentAt_1 : decode cX3_contentAt 1 = .ok (.getfield 10, 3) := by decide +kernel
theorem dX3_contentAt_4 : decode cX3_contentAt 4 = .ok (.aload_n 0, 1) := by decide +kernel
theorem dX3_contentAt_5 : decode cX3_contentAt 5 = .ok (.getfield 10, 3) := by decide +kernel
theorem dX3_contentAt_8 : decode cX3_contentAt 8 = .ok (.getfield 46, 3) := by decide +kernel
theorem dX3_contentAt_11 : decode cX3_contentAt 11 = .ok (.iload_n 1, 1) := by decide +kernel
theorem dX3_contentAt_12 : decode cX3_contentAt 12 = .ok (.invokevirtual 42, 3) := by decide +kernel
theorem dX3_contentAt_15 : decode cX3_contentAt 15 = .ok (.ireturn, 1) := by decide +kernel
set_option maxRecDepth 20000 in
theorem ggX3_contentLen_X0_ofNode : GoodIn wsX3_contentLen wsX0_ofNode := goodIn_r _ [6, 7, 8, 9, 5, 10, 11, 14, 15, 16, 17, 18, 19, 20, 21, 22, 23] (by decide +kernel) (by decide +kernel)
set_option maxRecDepth 20000 in
theorem gX3_contentLen_X0_ofNode : GoodIn wsX3_contentLen (wsV RX3 42 RX0 yX0_ofNode wsX0_ofNode) := goodIn_app (goodIn_of _ (by decide +kernel)) ggX3_contentLen_X0_ofNode
theorem dX3_contentLen_0 : decode cX3_contentLen 0 = .ok (.aload_n 0, 1) := by decide +kernel
theorem dX3_contentLen_1 : decode cX3_contentLen 1 = .ok (.getfield 10, 3) := by decide +kernel
theorem dX3_contentLen_4 : decode cX3_contentLen 4 = .ok (.aload_n 0, 1) := by decide +kernel
theorem dX3_contentLen_5 : decode cX3_contentLen 5 = .ok (.getfield 10, 3) := by decide +kernel
theorem dX3_contentLen_8 : decode cX3_contentLen 8 = .ok (.getfield 49, 3) := by decide +kernel
theorem dX3_contentLen_11 : decode cX3_contentLen 11 = .ok (.iload_n 1, 1) := by decide +kernel
theorem dX3_contentLen_12 : decode cX3_contentLen 12 = .ok (.invokevirtual 42, 3) := by decide +kernel
theorem dX3_contentLen_15 : decode cX3_contentLen 15 = .ok (.ireturn, 1) := by decide +kernel
set_option maxRecDepth 20000 in
theorem ggX3_parent_X0_ofNode : GoodIn wsX3_parent wsX0_ofNode := goodIn_r _ [6, 7, 8, 9, 5, 10, 11, 14, 15, 16, 17, 18, 19, 20, 21, 22, 23] (by decide +kernel) (by decide +kernel)
set_option maxRecDepth 20000 in
theorem gX3_parent_X0_ofNode : GoodIn wsX3_parent (wsV RX3 42 RX0 yX0_ofNode wsX0_ofNode) := goodIn_app (goodIn_of _ (by decide +kernel)) ggX3_parent_X0_ofNode
theorem dX3_parent_0 : decode cX3_parent 0 = .ok (.aload_n 0, 1) := by decide +kernel
theorem dX3_parent_1 : decode cX3_parent 1 = .ok (.getfield 10, 3) := by decide +kernel
theorem dX3_parent_4 : decode cX3_parent 4 = .ok (.aload_n 0, 1) := by decide +kernel
theorem dX3_parent_5 : decode cX3_parent 5 = .ok (.getfield 10, 3) := by decide +kernel
theorem dX3_parent_8 : decode cX3_parent 8 = .ok (.getfield 52, 3) := by decide +kernel
theorem dX3_parent_11 : decode cX3_parent 11 = .ok (.iload_n 1, 1) := by decide +kernel
theorem dX3_parent_12 : decode cX3_parent 12 = .ok (.invokevirtual 42, 3) := by decide +kernel
theorem dX3_parent_15 : decode cX3_parent 15 = .ok (.ireturn, 1) := by decide +kernel
set_option maxRecDepth 20000 in
theorem ggX3_oidArc_X0_arcOf : GoodIn wsX3_oidArc wsX0_arcOf := goodIn_r _ [6, 7, 8, 9, 10, 11, 5, 12, 13, 14, 15, 16, 17, 18, 19, 20, 21, 22, 23, 24, 25, 26, 27, 28, 29, 30, 31, 32, 33, 34, 35, 38, 39, 40, 41, 42, 43, 44, 45, 46, 47] (by decide +kernel) (by decide +kernel)
set_option maxRecDepth 20000 in
theorem gX3_oidArc_X0_arcOf : GoodIn wsX3_oidArc (wsV RX3 55 RX0 yX0_arcOf wsX0_arcOf) := goodIn_app (goodIn_of _ (by decide +kernel)) ggX3_oidArc_X0_arcOf
theorem dX3_oidArc_0 : decode cX3_oidArc 0 = .ok (.aload_n 0, 1) := by decide +kernel
theorem dX3_oidArc_1 : decode cX3_oidArc 1 = .ok (.getfield 10, 3) := by decide +kernel
theorem dX3_oidArc_4 : decode cX3_oidArc 4 = .ok (.iload_n 1, 1) := by decide +kernel
theorem dX3_oidArc_5 : decode cX3_oidArc 5 = .ok (.iload_n 2, 1) := by decide +kernel
theorem dX3_oidArc_6 : decode cX3_oidArc 6 = .ok (.invokevirtual 55, 3) := by decide +kernel
theorem dX3_oidArc_9 : decode cX3_oidArc 9 = .ok (.ireturn, 1) := by decide +kernel
set_option maxRecDepth 20000 in
theorem ggX3_intFits_X0_isSmallInteger : GoodIn wsX3_intFits wsX0_isSmallInteger := goodIn_r _ [6, 7, 8, 9, 10, 11, 5, 12, 13, 16, 17, 18, 19, 20, 21, 22, 23, 24, 25] (by decide +kernel) (by decide +kernel)
set_option maxRecDepth 20000 in
theorem gX3_intFits_X0_isSmallInteger : GoodIn wsX3_intFits (wsV RX3 59 RX0 yX0_isSmallInteger wsX0_isSmallInteger) := goodIn_app (goodIn_of _ (by decide +kernel)) ggX3_intFits_X0_isSmallInteger
theorem dX3_intFits_0 : decode cX3_intFits 0 = .ok (.aload_n 0, 1) := by decide +kernel
theorem dX3_intFits_1 : decode cX3_intFits 1 = .ok (.getfield 10, 3) := by decide +kernel
theorem dX3_intFits_4 : decode cX3_intFits 4 = .ok (.iload_n 1, 1) := by decide +kernel
theorem dX3_intFits_5 : decode cX3_intFits 5 = .ok (.invokevirtual 59, 3) := by decide +kernel
theorem dX3_intFits_8 : decode cX3_intFits 8 = .ok (.ireturn, 1) := by decide +kernel
set_option maxRecDepth 20000 in
theorem ggX3_intValue_X0_smallInteger : GoodIn wsX3_intValue wsX0_smallInteger := goodIn_r _ [6, 7, 8, 9, 10, 11, 5, 12, 13, 14, 15, 16, 17, 18, 19, 20, 21, 22, 23, 26, 27, 28, 29, 30, 31, 32, 33, 34, 35] (by decide +kernel) (by decide +kernel)
set_option maxRecDepth 20000 in
theorem gX3_intValue_X0_smallInteger : GoodIn wsX3_intValue (wsV RX3 63 RX0 yX0_smallInteger wsX0_smallInteger) := goodIn_app (goodIn_of _ (by decide +kernel)) ggX3_intValue_X0_smallInteger
theorem dX3_intValue_0 : decode cX3_intValue 0 = .ok (.aload_n 0, 1) := by decide +kernel
theorem dX3_intValue_1 : decode cX3_intValue 1 = .ok (.getfield 10, 3) := by decide +kernel
theorem dX3_intValue_4 : decode cX3_intValue 4 = .ok (.iload_n 1, 1) := by decide +kernel
theorem dX3_intValue_5 : decode cX3_intValue 5 = .ok (.invokevirtual 63, 3) := by decide +kernel
theorem dX3_intValue_8 : decode cX3_intValue 8 = .ok (.ireturn, 1) := by decide +kernel
set_option maxRecDepth 20000 in
theorem ggX3_wipe_X0_clear : GoodIn wsX3_wipe wsX0_clear := goodIn_r _ [6, 7, 8, 11, 12, 13, 14, 15, 16, 17, 18, 19, 20] (by decide +kernel) (by decide +kernel)
set_option maxRecDepth 20000 in
theorem gX3_wipe_X0_clear : GoodIn wsX3_wipe (wsV RX3 66 RX0 yX0_clear wsX0_clear) := goodIn_app (goodIn_of _ (by decide +kernel)) ggX3_wipe_X0_clear
theorem dX3_wipe_0 : decode cX3_wipe 0 = .ok (.aload_n 0, 1) := by decide +kernel
theorem dX3_wipe_1 : decode cX3_wipe 1 = .ok (.getfield 10, 3) := by decide +kernel
theorem dX3_wipe_4 : decode cX3_wipe 4 = .ok (.invokevirtual 66, 3) := by decide +kernel
theorem dX3_wipe_7 : decode cX3_wipe 7 = .ok (.return_, 1) := by decide +kernel
set_option maxRecDepth 20000 in
theorem ggX3_begin_X2_open : GoodIn wsX3_begin wsX2_open := goodIn_r _ [6, 7, 8, 9, 10, 11, 12, 13, 14, 15, 16, 5, 17, 18, 19, 20, 21, 22, 23, 24, 25, 26, 27, 28, 29, 30, 33, 34, 35, 36] (by decide +kernel) (by decide +kernel)
set_option maxRecDepth 20000 in
theorem gX3_begin_X2_open : GoodIn wsX3_begin (wsV RX3 69 RX2 yX2_open wsX2_open) := goodIn_app (goodIn_of _ (by decide +kernel)) ggX3_begin_X2_open
theorem dX3_begin_0 : decode cX3_begin 0 = .ok (.aload_n 0, 1) := by decide +kernel
theorem dX3_begin_1 : decode cX3_begin 1 = .ok (.getfield 19, 3) := by decide +kernel
theorem dX3_begin_4 : decode cX3_begin 4 = .ok (.iload_n 1, 1) := by decide +kernel
theorem dX3_begin_5 : decode cX3_begin 5 = .ok (.invokevirtual 69, 3) := by decide +kernel
theorem dX3_begin_8 : decode cX3_begin 8 = .ok (.ireturn, 1) := by decide +kernel
set_option maxRecDepth 20000 in
theorem ggX3_putByte_X2_addByte : GoodIn wsX3_putByte wsX2_addByte := goodIn_r _ [6, 7, 8, 9, 10, 11, 12, 13, 14, 5, 15, 16, 17, 18, 19, 20, 21, 22, 23, 24, 25, 26, 29, 30, 31, 32] (by decide +kernel) (by decide +kernel)
set_option maxRecDepth 20000 in
theorem gX3_putByte_X2_addByte : GoodIn wsX3_putByte (wsV RX3 72 RX2 yX2_addByte wsX2_addByte) := goodIn_app (goodIn_of _ (by decide +kernel)) ggX3_putByte_X2_addByte
theorem dX3_putByte_0 : decode cX3_putByte 0 = .ok (.aload_n 0, 1) := by decide +kernel
theorem dX3_putByte_1 : decode cX3_putByte 1 = .ok (.getfield 19, 3) := by decide +kernel
theorem dX3_putByte_4 : decode cX3_putByte 4 = .ok (.iload_n 1, 1) := by decide +kernel
theorem dX3_putByte_5 : decode cX3_putByte 5 = .ok (.invokevirtual 72, 3) := by decide +kernel
theorem dX3_putByte_8 : decode cX3_putByte 8 = .ok (.ireturn, 1) := by decide +kernel
set_option maxRecDepth 20000 in
theorem ggX3_putInt_X2_addInteger : GoodIn wsX3_putInt wsX2_addInteger := goodIn_r _ [6, 7, 8, 9, 5, 10, 11, 12, 13, 14, 15, 16, 17, 18, 19, 20, 21, 22, 23, 24, 25, 26, 27, 28, 29, 32, 33, 34, 35] (by decide +kernel) (by decide +kernel)
set_option maxRecDepth 20000 in
theorem gX3_putInt_X2_addInteger : GoodIn wsX3_putInt (wsV RX3 73 RX2 yX2_addInteger wsX2_addInteger) := goodIn_app (goodIn_of _ (by decide +kernel)) ggX3_putInt_X2_addInteger
theorem dX3_putInt_0 : decode cX3_putInt 0 = .ok (.aload_n 0, 1) := by decide +kernel
theorem dX3_putInt_1 : decode cX3_putInt 1 = .ok (.getfield 19, 3) := by decide +kernel
theorem dX3_putInt_4 : decode cX3_putInt 4 = .ok (.iload_n 1, 1) := by decide +kernel
theorem dX3_putInt_5 : decode cX3_putInt 5 = .ok (.invokevirtual 73, 3) := by decide +kernel
theorem dX3_putInt_8 : decode cX3_putInt 8 = .ok (.ireturn, 1) := by decide +kernel
set_option maxRecDepth 20000 in
theorem ggX3_putPart_X2_addPart : GoodIn wsX3_putPart wsX2_addPart := goodIn_r _ [6, 7, 8, 9, 5, 10, 11, 12, 13, 14, 15, 16, 17, 18, 19, 20, 21, 22, 23, 24, 25, 28, 29, 30, 31] (by decide +kernel) (by decide +kernel)
set_option maxRecDepth 20000 in
theorem gX3_putPart_X2_addPart : GoodIn wsX3_putPart (wsV RX3 76 RX2 yX2_addPart wsX2_addPart) := goodIn_app (goodIn_of _ (by decide +kernel)) ggX3_putPart_X2_addPart
theorem dX3_putPart_0 : decode cX3_putPart 0 = .ok (.aload_n 0, 1) := by decide +kernel
theorem dX3_putPart_1 : decode cX3_putPart 1 = .ok (.getfield 19, 3) := by decide +kernel
theorem dX3_putPart_4 : decode cX3_putPart 4 = .ok (.iload_n 1, 1) := by decide +kernel
theorem dX3_putPart_5 : decode cX3_putPart 5 = .ok (.invokevirtual 76, 3) := by decide +kernel
theorem dX3_putPart_8 : decode cX3_putPart 8 = .ok (.ireturn, 1) := by decide +kernel
set_option maxRecDepth 20000 in
theorem ggX3_end_X2_close : GoodIn wsX3_end wsX2_close := goodIn_r _ [6, 7, 8, 9, 10, 11, 12, 13, 14, 15, 16, 17, 18, 19, 20, 21, 22, 23, 24, 25, 26, 27, 28, 29, 5, 30, 31, 32, 33, 34, 35, 36, 37, 38, 41, 42, 43, 44] (by decide +kernel) (by decide +kernel)
set_option maxRecDepth 20000 in
theorem gX3_end_X2_close : GoodIn wsX3_end (wsV RX3 79 RX2 yX2_close wsX2_close) := goodIn_app (goodIn_of _ (by decide +kernel)) ggX3_end_X2_close
theorem dX3_end_0 : decode cX3_end 0 = .ok (.aload_n 0, 1) := by decide +kernel
theorem dX3_end_1 : decode cX3_end 1 = .ok (.getfield 19, 3) := by decide +kernel
theorem dX3_end_4 : decode cX3_end 4 = .ok (.invokevirtual 79, 3) := by decide +kernel
theorem dX3_end_7 : decode cX3_end 7 = .ok (.ireturn, 1) := by decide +kernel
set_option maxRecDepth 20000 in
theorem ggX3_out_X2_byteAt : GoodIn wsX3_out wsX2_byteAt := goodIn_r _ [6, 7, 8, 11, 12, 13, 14] (by decide +kernel) (by decide +kernel)
set_option maxRecDepth 20000 in
theorem gX3_out_X2_byteAt : GoodIn wsX3_out (wsV RX3 82 RX2 yX2_byteAt wsX2_byteAt) := goodIn_app (goodIn_of _ (by decide +kernel)) ggX3_out_X2_byteAt
theorem dX3_out_0 : decode cX3_out 0 = .ok (.aload_n 0, 1) := by decide +kernel
theorem dX3_out_1 : decode cX3_out 1 = .ok (.getfield 19, 3) := by decide +kernel
theorem dX3_out_4 : decode cX3_out 4 = .ok (.iload_n 1, 1) := by decide +kernel
theorem dX3_out_5 : decode cX3_out 5 = .ok (.invokevirtual 82, 3) := by decide +kernel
theorem dX3_out_8 : decode cX3_out 8 = .ok (.ireturn, 1) := by decide +kernel
theorem dX3_outSize_0 : decode cX3_outSize 0 = .ok (.aload_n 0, 1) := by decide +kernel
theorem dX3_outSize_1 : decode cX3_outSize 1 = .ok (.getfield 19, 3) := by decide +kernel
theorem dX3_outSize_4 : decode cX3_outSize 4 = .ok (.getfield 85, 3) := by decide +kernel
theorem dX3_outSize_7 : decode cX3_outSize 7 = .ok (.ireturn, 1) := by decide +kernel
theorem dX3_depth_0 : decode cX3_depth 0 = .ok (.aload_n 0, 1) := by decide +kernel
theorem dX3_depth_1 : decode cX3_depth 1 = .ok (.getfield 19, 3) := by decide +kernel
theorem dX3_depth_4 : decode cX3_depth 4 = .ok (.getfield 88, 3) := by decide +kernel
theorem dX3_depth_7 : decode cX3_depth 7 = .ok (.ireturn, 1) := by decide +kernel
set_option maxRecDepth 20000 in
theorem ggX3_restart_X2_clear : GoodIn wsX3_restart wsX2_clear := goodIn_r _ [6, 7, 8, 11, 12, 13, 14] (by decide +kernel) (by decide +kernel)
set_option maxRecDepth 20000 in
theorem gX3_restart_X2_clear : GoodIn wsX3_restart (wsV RX3 91 RX2 yX2_clear wsX2_clear) := goodIn_app (goodIn_of _ (by decide +kernel)) ggX3_restart_X2_clear
theorem dX3_restart_0 : decode cX3_restart 0 = .ok (.aload_n 0, 1) := by decide +kernel
theorem dX3_restart_1 : decode cX3_restart 1 = .ok (.getfield 19, 3) := by decide +kernel
theorem dX3_restart_4 : decode cX3_restart 4 = .ok (.invokevirtual 91, 3) := by decide +kernel
theorem dX3_restart_7 : decode cX3_restart 7 = .ok (.return_, 1) := by decide +kernel
