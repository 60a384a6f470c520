theorem dX4_offence_0 : decode cX4_offence 0 = .ok (.aload_n 0, 1) := by decide +kernel
theorem dX4_offence_1 : decode cX4_offence 1 = .ok (.iconst 0, 1) := by decide +kernel
theorem dX4_offence_2 : decode cX4_offence 2 = .ok (.putfield 41, 3) := by decide +kernel
theorem dX4_offence_5 : decode cX4_offence 5 = .ok (.aload_n 0, 1) := by decide +kernel
theorem dX4_offence_6 : decode cX4_offence 6 = .ok (.getfield 25, 3) := by decide +kernel
theorem dX4_offence_9 : decode cX4_offence 9 = .ok (.ireturn, 1) := by decide +kernel
theorem dX4_nodeCount_0 : decode cX4_nodeCount 0 = .ok (.aload_n 0, 1) := by decide +kernel
theorem dX4_nodeCount_1 : decode cX4_nodeCount 1 = .ok (.iconst 0, 1) := by decide +kernel
theorem dX4_nodeCount_2 : decode cX4_nodeCount 2 = .ok (.putfield 41, 3) := by decide +kernel
theorem dX4_nodeCount_5 : decode cX4_nodeCount 5 = .ok (.aload_n 0, 1) := by decide +kernel
theorem dX4_nodeCount_6 : decode cX4_nodeCount 6 = .ok (.getfield 51, 3) := by decide +kernel
theorem dX4_nodeCount_9 : decode cX4_nodeCount 9 = .ok (.ifCond .eq 10, 3) := by decide +kernel
theorem dX4_nodeCount_12 : decode cX4_nodeCount 12 = .ok (.aload_n 0, 1) := by decide +kernel
theorem dX4_nodeCount_13 : decode cX4_nodeCount 13 = .ok (.getfield 91, 3) := by decide +kernel
theorem dX4_nodeCount_16 : decode cX4_nodeCount 16 = .ok (.goto 4, 3) := by decide +kernel
theorem dX4_nodeCount_19 : decode cX4_nodeCount 19 = .ok (.iconst 0, 1) := by decide +kernel
theorem dX4_nodeCount_20 : decode cX4_nodeCount 20 = .ok (.ireturn, 1) := by decide +kernel
theorem dX4_isNode_0 : decode cX4_isNode 0 = .ok (.aload_n 0, 1) := by decide +kernel
theorem dX4_isNode_1 : decode cX4_isNode 1 = .ok (.iconst 0, 1) := by decide +kernel
theorem dX4_isNode_2 : decode cX4_isNode 2 = .ok (.putfield 41, 3) := by decide +kernel
theorem dX4_isNode_5 : decode cX4_isNode 5 = .ok (.aload_n 0, 1) := by decide +kernel
theorem dX4_isNode_6 : decode cX4_isNode 6 = .ok (.getfield 51, 3) := by decide +kernel
theorem dX4_isNode_9 : decode cX4_isNode 9 = .ok (.ifCond .eq 19, 3) := by decide +kernel
theorem dX4_isNode_12 : decode cX4_isNode 12 = .ok (.iload_n 1, 1) := by decide +kernel
theorem dX4_isNode_13 : decode cX4_isNode 13 = .ok (.ifCond .lt 15, 3) := by decide +kernel
theorem dX4_isNode_16 : decode cX4_isNode 16 = .ok (.iload_n 1, 1) := by decide +kernel
theorem dX4_isNode_17 : decode cX4_isNode 17 = .ok (.aload_n 0, 1) := by decide +kernel
theorem dX4_isNode_18 : decode cX4_isNode 18 = .ok (.getfield 91, 3) := by decide +kernel
theorem dX4_isNode_21 : decode cX4_isNode 21 = .ok (.if_icmp .ge 7, 3) := by decide +kernel
theorem dX4_isNode_24 : decode cX4_isNode 24 = .ok (.iconst 1, 1) := by decide +kernel
theorem dX4_isNode_25 : decode cX4_isNode 25 = .ok (.goto 4, 3) := by decide +kernel
theorem dX4_isNode_28 : decode cX4_isNode 28 = .ok (.iconst 0, 1) := by decide +kernel
theorem dX4_isNode_29 : decode cX4_isNode 29 = .ok (.ireturn, 1) := by decide +kernel
set_option maxRecDepth 20000 in
theorem ggX4_tagOf_X4_isNode : GoodIn wsX4_tagOf wsX4_isNode := goodIn_r _ [6, 7, 8, 9, 10, 11, 12, 13, 14, 15, 16, 17, 18, 19, 20, 21, 22, 23, 24, 25, 26, 27, 28, 29, 30, 31] (by decide +kernel) (by decide +kernel)
set_option maxRecDepth 20000 in
theorem gX4_tagOf_X4_isNode : GoodIn wsX4_tagOf (wsV RX4 94 RX4 yX4_isNode wsX4_isNode) := goodIn_app (goodIn_of _ (by decide +kernel)) ggX4_tagOf_X4_isNode
theorem dX4_tagOf_0 : decode cX4_tagOf 0 = .ok (.aload_n 0, 1) := by decide +kernel
theorem dX4_tagOf_1 : decode cX4_tagOf 1 = .ok (.iload_n 1, 1) := by decide +kernel
theorem dX4_tagOf_2 : decode cX4_tagOf 2 = .ok (.invokevirtual 94, 3) := by decide +kernel
theorem dX4_tagOf_5 : decode cX4_tagOf 5 = .ok (.ifCond .eq 12, 3) := by decide +kernel
theorem dX4_tagOf_8 : decode cX4_tagOf 8 = .ok (.aload_n 0, 1) := by decide +kernel
theorem dX4_tagOf_9 : decode cX4_tagOf 9 = .ok (.getfield 13, 3) := by decide +kernel
theorem dX4_tagOf_12 : decode cX4_tagOf 12 = .ok (.iload_n 1, 1) := by decide +kernel
theorem dX4_tagOf_13 : decode cX4_tagOf 13 = .ok (.iaload, 1) := by decide +kernel
theorem dX4_tagOf_14 : decode cX4_tagOf 14 = .ok (.goto 4, 3) := by decide +kernel
theorem dX4_tagOf_17 : decode cX4_tagOf 17 = .ok (.iconst (-1), 1) := by decide +kernel
theorem dX4_tagOf_18 : decode cX4_tagOf 18 = .ok (.ireturn, 1) := by decide +kernel
set_option maxRecDepth 20000 in
theorem ggX4_contentAt_X4_isNode : GoodIn wsX4_contentAt wsX4_isNode := goodIn_r _ [6, 7, 8, 9, 10, 11, 12, 13, 14, 15, 16, 17, 18, 19, 20, 21, 22, 23, 24, 25, 26, 27, 28, 29, 30, 31] (by decide +kernel) (by decide +kernel)
set_option maxRecDepth 20000 in
theorem gX4_contentAt_X4_isNode : GoodIn wsX4_contentAt (wsV RX4 94 RX4 yX4_isNode wsX4_isNode) := goodIn_app (goodIn_of _ (by decide +kernel)) ggX4_contentAt_X4_isNode
theorem dX4_contentAt_0 : decode cX4_contentAt 0 = .ok (.aload_n 0, 1) := by decide +kernel
theorem dX4_contentAt_1 : decode cX4_contentAt 1 = .ok (.iload_n 1, 1) := by decide +kernel
theorem dX4_contentAt_2 : decode cX4_contentAt 2 = .ok (.invokevirtual 94, 3) := by decide +kernel
theorem dX4_contentAt_5 : decode cX4_contentAt 5 = .ok (.ifCond .eq 12, 3) := by decide +kernel
theorem dX4_contentAt_8 : decode cX4_contentAt 8 = .ok (.aload_n 0, 1) := by decide +kernel
theorem dX4_contentAt_9 : decode cX4_contentAt 9 = .ok (.getfield 16, 3) := by decide +kernel
theorem dX4_contentAt_12 : decode cX4_contentAt 12 = .ok (.iload_n 1, 1) := by decide +kernel
theorem dX4_contentAt_13 : decode cX4_contentAt 13 = .ok (.iaload, 1) := by decide +kernel
theorem dX4_contentAt_14 : decode cX4_contentAt 14 = .ok (.goto 4, 3) := by decide +kernel
theorem dX4_contentAt_17 : decode cX4_contentAt 17 = .ok (.iconst (-1), 1) := by decide +kernel
theorem dX4_contentAt_18 : decode cX4_contentAt 18 = .ok (.ireturn, 1) := by decide +kernel
set_option maxRecDepth 20000 in
theorem ggX4_contentLen_X4_isNode : GoodIn wsX4_contentLen wsX4_isNode := goodIn_r _ [6, 7, 8, 9, 10, 11, 12, 13, 14, 15, 16, 17, 18, 19, 20, 21, 22, 23, 24, 25, 26, 27, 28, 29, 30, 31] (by decide +kernel) (by decide +kernel)
set_option maxRecDepth 20000 in
theorem gX4_contentLen_X4_isNode : GoodIn wsX4_contentLen (wsV RX4 94 RX4 yX4_isNode wsX4_isNode) := goodIn_app (goodIn_of _ (by decide +kernel)) ggX4_contentLen_X4_isNode
theorem dX4_contentLen_0 : decode cX4_contentLen 0 = .ok (.aload_n 0, 1) := by decide +kernel
theorem dX4_contentLen_1 : decode cX4_contentLen 1 = .ok (.iload_n 1, 1) := by decide +kernel
theorem dX4_contentLen_2 : decode cX4_contentLen 2 = .ok (.invokevirtual 94, 3) := by decide +kernel
theorem dX4_contentLen_5 : decode cX4_contentLen 5 = .ok (.ifCond .eq 12, 3) := by decide +kernel
theorem dX4_contentLen_8 : decode cX4_contentLen 8 = .ok (.aload_n 0, 1) := by decide +kernel
theorem dX4_contentLen_9 : decode cX4_contentLen 9 = .ok (.getfield 19, 3) := by decide +kernel
theorem dX4_contentLen_12 : decode cX4_contentLen 12 = .ok (.iload_n 1, 1) := by decide +kernel
theorem dX4_contentLen_13 : decode cX4_contentLen 13 = .ok (.iaload, 1) := by decide +kernel
theorem dX4_contentLen_14 : decode cX4_contentLen 14 = .ok (.goto 4, 3) := by decide +kernel
theorem dX4_contentLen_17 : decode cX4_contentLen 17 = .ok (.iconst (-1), 1) := by decide +kernel
theorem dX4_contentLen_18 : decode cX4_contentLen 18 = .ok (.ireturn, 1) := by decide +kernel
set_option maxRecDepth 20000 in
theorem ggX4_parent_X4_isNode : GoodIn wsX4_parent wsX4_isNode := goodIn_r _ [6, 7, 8, 9, 10, 11, 12, 13, 14, 15, 16, 17, 18, 19, 20, 21, 22, 23, 24, 25, 26, 27, 28, 29, 30, 31] (by decide +kernel) (by decide +kernel)
set_option maxRecDepth 20000 in
theorem gX4_parent_X4_isNode : GoodIn wsX4_parent (wsV RX4 94 RX4 yX4_isNode wsX4_isNode) := goodIn_app (goodIn_of _ (by decide +kernel)) ggX4_parent_X4_isNode
theorem dX4_parent_0 : decode cX4_parent 0 = .ok (.aload_n 0, 1) := by decide +kernel
theorem dX4_parent_1 : decode cX4_parent 1 = .ok (.iload_n 1, 1) := by decide +kernel
theorem dX4_parent_2 : decode cX4_parent 2 = .ok (.invokevirtual 94, 3) := by decide +kernel
theorem dX4_parent_5 : decode cX4_parent 5 = .ok (.ifCond .eq 12, 3) := by decide +kernel
theorem dX4_parent_8 : decode cX4_parent 8 = .ok (.aload_n 0, 1) := by decide +kernel
theorem dX4_parent_9 : decode cX4_parent 9 = .ok (.getfield 22, 3) := by decide +kernel
theorem dX4_parent_12 : decode cX4_parent 12 = .ok (.iload_n 1, 1) := by decide +kernel
theorem dX4_parent_13 : decode cX4_parent 13 = .ok (.iaload, 1) := by decide +kernel
theorem dX4_parent_14 : decode cX4_parent 14 = .ok (.goto 4, 3) := by decide +kernel
theorem dX4_parent_17 : decode cX4_parent 17 = .ok (.iconst (-1), 1) := by decide +kernel
theorem dX4_parent_18 : decode cX4_parent 18 = .ok (.ireturn, 1) := by decide +kernel
set_option maxRecDepth 20000 in
theorem ggX4_oidArc_X4_isNode : GoodIn wsX4_oidArc wsX4_isNode := goodIn_r _ [15, 16, 17, 18, 19, 20, 21, 22, 23, 24, 25, 26, 27, 28, 29, 30, 31, 32, 33, 34, 35, 36, 37, 38, 39, 40] (by decide +kernel) (by decide +kernel)
set_option maxRecDepth 20000 in
theorem gX4_oidArc_X4_isNode : GoodIn wsX4_oidArc (wsV RX4 94 RX4 yX4_isNode wsX4_isNode) := goodIn_app (goodIn_of _ (by decide +kernel)) ggX4_oidArc_X4_isNode
theorem dX4_oidArc_0 : decode cX4_oidArc 0 = .ok (.aload_n 0, 1) := by decide +kernel
theorem dX4_oidArc_1 : decode cX4_oidArc 1 = .ok (.iload_n 1, 1) := by decide +kernel
theorem dX4_oidArc_2 : decode cX4_oidArc 2 = .ok (.invokevirtual 94, 3) := by decide +kernel
theorem dX4_oidArc_5 : decode cX4_oidArc 5 = .ok (.ifCond .eq 18, 3) := by decide +kernel
theorem dX4_oidArc_8 : decode cX4_oidArc 8 = .ok (.aload_n 0, 1) := by decide +kernel
theorem dX4_oidArc_9 : decode cX4_oidArc 9 = .ok (.getfield 13, 3) := by decide +kernel
theorem dX4_oidArc_12 : decode cX4_oidArc 12 = .ok (.iload_n 1, 1) := by decide +kernel
theorem dX4_oidArc_13 : decode cX4_oidArc 13 = .ok (.iaload, 1) := by decide +kernel
theorem dX4_oidArc_14 : decode cX4_oidArc 14 = .ok (.bipush 6, 2) := by decide +kernel
theorem dX4_oidArc_16 : decode cX4_oidArc 16 = .ok (.if_icmp .ne 7, 3) := by decide +kernel
theorem dX4_oidArc_19 : decode cX4_oidArc 19 = .ok (.iload_n 2, 1) := by decide +kernel
theorem dX4_oidArc_20 : decode cX4_oidArc 20 = .ok (.ifCond .ge 5, 3) := by decide +kernel
theorem dX4_oidArc_23 : decode cX4_oidArc 23 = .ok (.iconst (-1), 1) := by decide +kernel
theorem dX4_oidArc_24 : decode cX4_oidArc 24 = .ok (.ireturn, 1) := by decide +kernel
theorem dX4_oidArc_25 : decode cX4_oidArc 25 = .ok (.iconst 0, 1) := by decide +kernel
theorem dX4_oidArc_26 : decode cX4_oidArc 26 = .ok (.istore_n 3, 1) := by decide +kernel
theorem dX4_oidArc_27 : decode cX4_oidArc 27 = .ok (.lconst 0, 1) := by decide +kernel
theorem dX4_oidArc_28 : decode cX4_oidArc 28 = .ok (.lstore 4, 2) := by decide +kernel
theorem dX4_oidArc_30 : decode cX4_oidArc 30 = .ok (.iconst 0, 1) := by decide +kernel
theorem dX4_oidArc_31 : decode cX4_oidArc 31 = .ok (.istore 6, 2) := by decide +kernel
theorem dX4_oidArc_33 : decode cX4_oidArc 33 = .ok (.iload 6, 2) := by decide +kernel
theorem dX4_oidArc_35 : decode cX4_oidArc 35 = .ok (.aload_n 0, 1) := by decide +kernel
theorem dX4_oidArc_36 : decode cX4_oidArc 36 = .ok (.getfield 19, 3) := by decide +kernel
theorem dX4_oidArc_39 : decode cX4_oidArc 39 = .ok (.iload_n 1, 1) := by decide +kernel
theorem dX4_oidArc_40 : decode cX4_oidArc 40 = .ok (.iaload, 1) := by decide +kernel
theorem dX4_oidArc_41 : decode cX4_oidArc 41 = .ok (.if_icmp .ge 150, 3) := by decide +kernel
theorem dX4_oidArc_44 : decode cX4_oidArc 44 = .ok (.aload_n 0, 1) := by decide +kernel
theorem dX4_oidArc_45 : decode cX4_oidArc 45 = .ok (.getfield 7, 3) := by decide +kernel
theorem dX4_oidArc_48 : decode cX4_oidArc 48 = .ok (.aload_n 0, 1) := by decide +kernel
theorem dX4_oidArc_49 : decode cX4_oidArc 49 = .ok (.getfield 16, 3) := by decide +kernel
theorem dX4_oidArc_52 : decode cX4_oidArc 52 = .ok (.iload_n 1, 1) := by decide +kernel
theorem dX4_oidArc_53 : decode cX4_oidArc 53 = .ok (.iaload, 1) := by decide +kernel
theorem dX4_oidArc_54 : decode cX4_oidArc 54 = .ok (.iload 6, 2) := by decide +kernel
theorem dX4_oidArc_56 : decode cX4_oidArc 56 = .ok (.iadd, 1) := by decide +kernel
theorem dX4_oidArc_57 : decode cX4_oidArc 57 = .ok (.iaload, 1) := by decide +kernel
theorem dX4_oidArc_58 : decode cX4_oidArc 58 = .ok (.istore 7, 2) := by decide +kernel
theorem dX4_oidArc_60 : decode cX4_oidArc 60 = .ok (.lload 4, 2) := by decide +kernel
theorem dX4_oidArc_62 : decode cX4_oidArc 62 = .ok (.ldc2_w 97, 3) := by decide +kernel
theorem dX4_oidArc_65 : decode cX4_oidArc 65 = .ok (.lcmp, 1) := by decide +kernel
theorem dX4_oidArc_66 : decode cX4_oidArc 66 = .ok (.ifCond .le 8, 3) := by decide +kernel
theorem dX4_oidArc_69 : decode cX4_oidArc 69 = .ok (.lload 4, 2) := by decide +kernel
theorem dX4_oidArc_71 : decode cX4_oidArc 71 = .ok (.goto 17, 3) := by decide +kernel
theorem dX4_oidArc_74 : decode cX4_oidArc 74 = .ok (.ldc2_w 99, 3) := by decide +kernel
theorem dX4_oidArc_77 : decode cX4_oidArc 77 = .ok (.lload 4, 2) := by decide +kernel
theorem dX4_oidArc_79 : decode cX4_oidArc 79 = .ok (.lmul, 1) := by decide +kernel
theorem dX4_oidArc_80 : decode cX4_oidArc 80 = .ok (.iload 7, 2) := by decide +kernel
theorem dX4_oidArc_82 : decode cX4_oidArc 82 = .ok (.sipush 128, 3) := by decide +kernel
theorem dX4_oidArc_85 : decode cX4_oidArc 85 = .ok (.irem, 1) := by decide +kernel
theorem dX4_oidArc_86 : decode cX4_oidArc 86 = .ok (.i2l, 1) := by decide +kernel
theorem dX4_oidArc_87 : decode cX4_oidArc 87 = .ok (.ladd, 1) := by decide +kernel
theorem dX4_oidArc_88 : decode cX4_oidArc 88 = .ok (.lstore 4, 2) := by decide +kernel
theorem dX4_oidArc_90 : decode cX4_oidArc 90 = .ok (.iload 7, 2) := by decide +kernel
theorem dX4_oidArc_92 : decode cX4_oidArc 92 = .ok (.bipush 127, 2) := by decide +kernel
theorem dX4_oidArc_94 : decode cX4_oidArc 94 = .ok (.if_icmp .le 6, 3) := by decide +kernel
theorem dX4_oidArc_97 : decode cX4_oidArc 97 = .ok (.goto 88, 3) := by decide +kernel
theorem dX4_oidArc_100 : decode cX4_oidArc 100 = .ok (.iload_n 3, 1) := by decide +kernel
theorem dX4_oidArc_101 : decode cX4_oidArc 101 = .ok (.ifCond .ne 55, 3) := by decide +kernel
theorem dX4_oidArc_104 : decode cX4_oidArc 104 = .ok (.lload 4, 2) := by decide +kernel
theorem dX4_oidArc_106 : decode cX4_oidArc 106 = .ok (.ldc2_w 101, 3) := by decide +kernel
theorem dX4_oidArc_109 : decode cX4_oidArc 109 = .ok (.lcmp, 1) := by decide +kernel
theorem dX4_oidArc_110 : decode cX4_oidArc 110 = .ok (.ifCond .ge 7, 3) := by decide +kernel
theorem dX4_oidArc_113 : decode cX4_oidArc 113 = .ok (.lconst 0, 1) := by decide +kernel
theorem dX4_oidArc_114 : decode cX4_oidArc 114 = .ok (.goto 19, 3) := by decide +kernel
theorem dX4_oidArc_117 : decode cX4_oidArc 117 = .ok (.lload 4, 2) := by decide +kernel
theorem dX4_oidArc_119 : decode cX4_oidArc 119 = .ok (.ldc2_w 103, 3) := by decide +kernel
theorem dX4_oidArc_122 : decode cX4_oidArc 122 = .ok (.lcmp, 1) := by decide +kernel
theorem dX4_oidArc_123 : decode cX4_oidArc 123 = .ok (.ifCond .ge 7, 3) := by decide +kernel
theorem dX4_oidArc_126 : decode cX4_oidArc 126 = .ok (.lconst 1, 1) := by decide +kernel
theorem dX4_oidArc_127 : decode cX4_oidArc 127 = .ok (.goto 6, 3) := by decide +kernel
theorem dX4_oidArc_130 : decode cX4_oidArc 130 = .ok (.ldc2_w 105, 3) := by decide +kernel
theorem dX4_oidArc_133 : decode cX4_oidArc 133 = .ok (.lstore 8, 2) := by decide +kernel
theorem dX4_oidArc_135 : decode cX4_oidArc 135 = .ok (.iload_n 2, 1) := by decide +kernel
theorem dX4_oidArc_136 : decode cX4_oidArc 136 = .ok (.ifCond .ne 7, 3) := by decide +kernel
theorem dX4_oidArc_139 : decode cX4_oidArc 139 = .ok (.lload 8, 2) := by decide +kernel
theorem dX4_oidArc_141 : decode cX4_oidArc 141 = .ok (.l2i, 1) := by decide +kernel
theorem dX4_oidArc_142 : decode cX4_oidArc 142 = .ok (.ireturn, 1) := by decide +kernel
theorem dX4_oidArc_143 : decode cX4_oidArc 143 = .ok (.lload 4, 2) := by decide +kernel
theorem dX4_oidArc_145 : decode cX4_oidArc 145 = .ok (.ldc2_w 101, 3) := by decide +kernel
theorem dX4_oidArc_148 : decode cX4_oidArc 148 = .ok (.lload 8, 2) := by decide +kernel
theorem dX4_oidArc_150 : decode cX4_oidArc 150 = .ok (.lmul, 1) := by decide +kernel
theorem dX4_oidArc_151 : decode cX4_oidArc 151 = .ok (.lsub, 1) := by decide +kernel
theorem dX4_oidArc_152 : decode cX4_oidArc 152 = .ok (.lstore 4, 2) := by decide +kernel
theorem dX4_oidArc_154 : decode cX4_oidArc 154 = .ok (.iconst 1, 1) := by decide +kernel
theorem dX4_oidArc_155 : decode cX4_oidArc 155 = .ok (.istore_n 3, 1) := by decide +kernel
theorem dX4_oidArc_156 : decode cX4_oidArc 156 = .ok (.iload_n 3, 1) := by decide +kernel
theorem dX4_oidArc_157 : decode cX4_oidArc 157 = .ok (.iload_n 2, 1) := by decide +kernel
theorem dX4_oidArc_158 : decode cX4_oidArc 158 = .ok (.if_icmp .ne 21, 3) := by decide +kernel
theorem dX4_oidArc_161 : decode cX4_oidArc 161 = .ok (.lload 4, 2) := by decide +kernel
theorem dX4_oidArc_163 : decode cX4_oidArc 163 = .ok (.ldc2_w 107, 3) := by decide +kernel
theorem dX4_oidArc_166 : decode cX4_oidArc 166 = .ok (.lcmp, 1) := by decide +kernel
theorem dX4_oidArc_167 : decode cX4_oidArc 167 = .ok (.ifCond .le 8, 3) := by decide +kernel
theorem dX4_oidArc_170 : decode cX4_oidArc 170 = .ok (.bipush (-2), 2) := by decide +kernel
theorem dX4_oidArc_172 : decode cX4_oidArc 172 = .ok (.goto 6, 3) := by decide +kernel
theorem dX4_oidArc_175 : decode cX4_oidArc 175 = .ok (.lload 4, 2) := by decide +kernel
theorem dX4_oidArc_177 : decode cX4_oidArc 177 = .ok (.l2i, 1) := by decide +kernel
theorem dX4_oidArc_178 : decode cX4_oidArc 178 = .ok (.ireturn, 1) := by decide +kernel
theorem dX4_oidArc_179 : decode cX4_oidArc 179 = .ok (.iinc 3 1, 3) := by decide +kernel
theorem dX4_oidArc_182 : decode cX4_oidArc 182 = .ok (.lconst 0, 1) := by decide +kernel
theorem dX4_oidArc_183 : decode cX4_oidArc 183 = .ok (.lstore 4, 2) := by decide +kernel
theorem dX4_oidArc_185 : decode cX4_oidArc 185 = .ok (.iinc 6 1, 3) := by decide +kernel
theorem dX4_oidArc_188 : decode cX4_oidArc 188 = .ok (.goto (-155), 3) := by decide +kernel
theorem dX4_oidArc_191 : decode cX4_oidArc 191 = .ok (.iconst (-1), 1) := by decide +kernel
theorem dX4_oidArc_192 : decode cX4_oidArc 192 = .ok (.ireturn, 1) := by decide +kernel
set_option maxRecDepth 20000 in
theorem ggX4_intFits_X4_isNode : GoodIn wsX4_intFits wsX4_isNode := goodIn_r _ [7, 8, 9, 10, 11, 12, 13, 14, 15, 16, 17, 18, 19, 20, 21, 22, 23, 24, 25, 26, 27, 28, 29, 30, 31, 32] (by decide +kernel) (by decide +kernel)
set_option maxRecDepth 20000 in
theorem gX4_intFits_X4_isNode : GoodIn wsX4_intFits (wsV RX4 94 RX4 yX4_isNode wsX4_isNode) := goodIn_app (goodIn_of _ (by decide +kernel)) ggX4_intFits_X4_isNode
theorem dX4_intFits_0 : decode cX4_intFits 0 = .ok (.aload_n 0, 1) := by decide +kernel
theorem dX4_intFits_1 : decode cX4_intFits 1 = .ok (.iload_n 1, 1) := by decide +kernel
theorem dX4_intFits_2 : decode cX4_intFits 2 = .ok (.invokevirtual 94, 3) := by decide +kernel
theorem dX4_intFits_5 : decode cX4_intFits 5 = .ok (.ifCond .eq 27, 3) := by decide +kernel
theorem dX4_intFits_8 : decode cX4_intFits 8 = .ok (.aload_n 0, 1) := by decide +kernel
theorem dX4_intFits_9 : decode cX4_intFits 9 = .ok (.getfield 13, 3) := by decide +kernel
theorem dX4_intFits_12 : decode cX4_intFits 12 = .ok (.iload_n 1, 1) := by decide +kernel
theorem dX4_intFits_13 : decode cX4_intFits 13 = .ok (.iaload, 1) := by decide +kernel
theorem dX4_intFits_14 : decode cX4_intFits 14 = .ok (.iconst 2, 1) := by decide +kernel
theorem dX4_intFits_15 : decode cX4_intFits 15 = .ok (.if_icmp .ne 17, 3) := by decide +kernel
theorem dX4_intFits_18 : decode cX4_intFits 18 = .ok (.aload_n 0, 1) := by decide +kernel
theorem dX4_intFits_19 : decode cX4_intFits 19 = .ok (.getfield 19, 3) := by decide +kernel
theorem dX4_intFits_22 : decode cX4_intFits 22 = .ok (.iload_n 1, 1) := by decide +kernel
theorem dX4_intFits_23 : decode cX4_intFits 23 = .ok (.iaload, 1) := by decide +kernel
theorem dX4_intFits_24 : decode cX4_intFits 24 = .ok (.iconst 4, 1) := by decide +kernel
theorem dX4_intFits_25 : decode cX4_intFits 25 = .ok (.if_icmp .gt 7, 3) := by decide +kernel
theorem dX4_intFits_28 : decode cX4_intFits 28 = .ok (.iconst 1, 1) := by decide +kernel
theorem dX4_intFits_29 : decode cX4_intFits 29 = .ok (.goto 4, 3) := by decide +kernel
theorem dX4_intFits_32 : decode cX4_intFits 32 = .ok (.iconst 0, 1) := by decide +kernel
theorem dX4_intFits_33 : decode cX4_intFits 33 = .ok (.ireturn, 1) := by decide +kernel
set_option maxRecDepth 20000 in
theorem ggX4_intValue_X4_intFits : GoodIn wsX4_intValue wsX4_intFits := goodIn_r _ [8, 9, 3, 10, 11, 12, 7, 13, 14, 15, 16, 17, 18, 19, 20, 21, 22, 23, 24, 25, 26, 27, 28, 29, 30, 31, 32, 33, 34, 35, 36, 37, 38] (by decide +kernel) (by decide +kernel)
set_option maxRecDepth 20000 in
theorem gX4_intValue_X4_intFits : GoodIn wsX4_intValue (wsV RX4 109 RX4 yX4_intFits wsX4_intFits) := goodIn_app (goodIn_of _ (by decide +kernel)) ggX4_intValue_X4_intFits
theorem dX4_intValue_0 : decode cX4_intValue 0 = .ok (.aload_n 0, 1) := by decide +kernel
theorem dX4_intValue_1 : decode cX4_intValue 1 = .ok (.iload_n 1, 1) := by decide +kernel
theorem dX4_intValue_2 : decode cX4_intValue 2 = .ok (.invokevirtual 109, 3) := by decide +kernel
theorem dX4_intValue_5 : decode cX4_intValue 5 = .ok (.ifCond .ne 5, 3) := by decide +kernel
theorem dX4_intValue_8 : decode cX4_intValue 8 = .ok (.iconst 0, 1) := by decide +kernel
theorem dX4_intValue_9 : decode cX4_intValue 9 = .ok (.ireturn, 1) := by decide +kernel
theorem dX4_intValue_10 : decode cX4_intValue 10 = .ok (.aload_n 0, 1) := by decide +kernel
theorem dX4_intValue_11 : decode cX4_intValue 11 = .ok (.getfield 7, 3) := by decide +kernel
theorem dX4_intValue_14 : decode cX4_intValue 14 = .ok (.aload_n 0, 1) := by decide +kernel
theorem dX4_intValue_15 : decode cX4_intValue 15 = .ok (.getfield 16, 3) := by decide +kernel
theorem dX4_intValue_18 : decode cX4_intValue 18 = .ok (.iload_n 1, 1) := by decide +kernel
theorem dX4_intValue_19 : decode cX4_intValue 19 = .ok (.iaload, 1) := by decide +kernel
theorem dX4_intValue_20 : decode cX4_intValue 20 = .ok (.iaload, 1) := by decide +kernel
theorem dX4_intValue_21 : decode cX4_intValue 21 = .ok (.bipush 127, 2) := by decide +kernel
theorem dX4_intValue_23 : decode cX4_intValue 23 = .ok (.if_icmp .le 7, 3) := by decide +kernel
theorem dX4_intValue_26 : decode cX4_intValue 26 = .ok (.iconst (-1), 1) := by decide +kernel
theorem dX4_intValue_27 : decode cX4_intValue 27 = .ok (.goto 4, 3) := by decide +kernel
theorem dX4_intValue_30 : decode cX4_intValue 30 = .ok (.iconst 0, 1) := by decide +kernel
theorem dX4_intValue_31 : decode cX4_intValue 31 = .ok (.istore_n 2, 1) := by decide +kernel
theorem dX4_intValue_32 : decode cX4_intValue 32 = .ok (.iconst 0, 1) := by decide +kernel
theorem dX4_intValue_33 : decode cX4_intValue 33 = .ok (.istore_n 3, 1) := by decide +kernel
theorem dX4_intValue_34 : decode cX4_intValue 34 = .ok (.iload_n 3, 1) := by decide +kernel
theorem dX4_intValue_35 : decode cX4_intValue 35 = .ok (.aload_n 0, 1) := by decide +kernel
theorem dX4_intValue_36 : decode cX4_intValue 36 = .ok (.getfield 19, 3) := by decide +kernel
theorem dX4_intValue_39 : decode cX4_intValue 39 = .ok (.iload_n 1, 1) := by decide +kernel
theorem dX4_intValue_40 : decode cX4_intValue 40 = .ok (.iaload, 1) := by decide +kernel
theorem dX4_intValue_41 : decode cX4_intValue 41 = .ok (.if_icmp .ge 28, 3) := by decide +kernel
theorem dX4_intValue_44 : decode cX4_intValue 44 = .ok (.iload_n 2, 1) := by decide +kernel
theorem dX4_intValue_45 : decode cX4_intValue 45 = .ok (.bipush 8, 2) := by decide +kernel
theorem dX4_intValue_47 : decode cX4_intValue 47 = .ok (.ishl, 1) := by decide +kernel
theorem dX4_intValue_48 : decode cX4_intValue 48 = .ok (.aload_n 0, 1) := by decide +kernel
theorem dX4_intValue_49 : decode cX4_intValue 49 = .ok (.getfield 7, 3) := by decide +kernel
theorem dX4_intValue_52 : decode cX4_intValue 52 = .ok (.aload_n 0, 1) := by decide +kernel
theorem dX4_intValue_53 : decode cX4_intValue 53 = .ok (.getfield 16, 3) := by decide +kernel
theorem dX4_intValue_56 : decode cX4_intValue 56 = .ok (.iload_n 1, 1) := by decide +kernel
theorem dX4_intValue_57 : decode cX4_intValue 57 = .ok (.iaload, 1) := by decide +kernel
theorem dX4_intValue_58 : decode cX4_intValue 58 = .ok (.iload_n 3, 1) := by decide +kernel
theorem dX4_intValue_59 : decode cX4_intValue 59 = .ok (.iadd, 1) := by decide +kernel
theorem dX4_intValue_60 : decode cX4_intValue 60 = .ok (.iaload, 1) := by decide +kernel
theorem dX4_intValue_61 : decode cX4_intValue 61 = .ok (.ior, 1) := by decide +kernel
theorem dX4_intValue_62 : decode cX4_intValue 62 = .ok (.istore_n 2, 1) := by decide +kernel
theorem dX4_intValue_63 : decode cX4_intValue 63 = .ok (.iinc 3 1, 3) := by decide +kernel
theorem dX4_intValue_66 : decode cX4_intValue 66 = .ok (.goto (-32), 3) := by decide +kernel
theorem dX4_intValue_69 : decode cX4_intValue 69 = .ok (.iload_n 2, 1) := by decide +kernel
theorem dX4_intValue_70 : decode cX4_intValue 70 = .ok (.ireturn, 1) := by decide +kernel
theorem dX4_restart_0 : decode cX4_restart 0 = .ok (.aload_n 0, 1) := by decide +kernel
theorem dX4_restart_1 : decode cX4_restart 1 = .ok (.iconst 0, 1) := by decide +kernel
theorem dX4_restart_2 : decode cX4_restart 2 = .ok (.putfield 41, 3) := by decide +kernel
theorem dX4_restart_5 : decode cX4_restart 5 = .ok (.aload_n 0, 1) := by decide +kernel
theorem dX4_restart_6 : decode cX4_restart 6 = .ok (.iconst 0, 1) := by decide +kernel
theorem dX4_restart_7 : decode cX4_restart 7 = .ok (.putfield 112, 3) := by decide +kernel
theorem dX4_restart_10 : decode cX4_restart 10 = .ok (.aload_n 0, 1) := by decide +kernel
theorem dX4_restart_11 : decode cX4_restart 11 = .ok (.iconst 0, 1) := by decide +kernel
theorem dX4_restart_12 : decode cX4_restart 12 = .ok (.putfield 115, 3) := by decide +kernel
theorem dX4_restart_15 : decode cX4_restart 15 = .ok (.aload_n 0, 1) := by decide +kernel
theorem dX4_restart_16 : decode cX4_restart 16 = .ok (.iconst 0, 1) := by decide +kernel
theorem dX4_restart_17 : decode cX4_restart 17 = .ok (.putfield 118, 3) := by decide +kernel
theorem dX4_restart_20 : decode cX4_restart 20 = .ok (.return_, 1) := by decide +kernel
theorem dX4_openTag_0 : decode cX4_openTag 0 = .ok (.aload_n 0, 1) := by decide +kernel
theorem dX4_openTag_1 : decode cX4_openTag 1 = .ok (.getfield 115, 3) := by decide +kernel
theorem dX4_openTag_4 : decode cX4_openTag 4 = .ok (.ifCond .ne 7, 3) := by decide +kernel
theorem dX4_openTag_7 : decode cX4_openTag 7 = .ok (.iconst (-1), 1) := by decide +kernel
theorem dX4_openTag_8 : decode cX4_openTag 8 = .ok (.goto 19, 3) := by decide +kernel
theorem dX4_openTag_11 : decode cX4_openTag 11 = .ok (.aload_n 0, 1) := by decide +kernel
theorem dX4_openTag_12 : decode cX4_openTag 12 = .ok (.getfield 35, 3) := by decide +kernel
theorem dX4_openTag_15 : decode cX4_openTag 15 = .ok (.aload_n 0, 1) := by decide +kernel
theorem dX4_openTag_16 : decode cX4_openTag 16 = .ok (.getfield 38, 3) := by decide +kernel
theorem dX4_openTag_19 : decode cX4_openTag 19 = .ok (.aload_n 0, 1) := by decide +kernel
theorem dX4_openTag_20 : decode cX4_openTag 20 = .ok (.getfield 115, 3) := by decide +kernel
theorem dX4_openTag_23 : decode cX4_openTag 23 = .ok (.iconst 1, 1) := by decide +kernel
theorem dX4_openTag_24 : decode cX4_openTag 24 = .ok (.isub, 1) := by decide +kernel
theorem dX4_openTag_25 : decode cX4_openTag 25 = .ok (.iaload, 1) := by decide +kernel
theorem dX4_openTag_26 : decode cX4_openTag 26 = .ok (.iaload, 1) := by decide +kernel
theorem dX4_openTag_27 : decode cX4_openTag 27 = .ok (.ireturn, 1) := by decide +kernel
set_option maxRecDepth 20000 in
theorem ggX4_begin_X4_isTag : GoodIn wsX4_begin wsX4_isTag := goodIn_r _ [10] (by decide +kernel) (by decide +kernel)
set_option maxRecDepth 20000 in
theorem gX4_begin_X4_isTag : GoodIn wsX4_begin (va_wsS RX4 75 yX4_isTag wsX4_isTag) := goodIn_app (goodIn_of _ (by decide +kernel)) ggX4_begin_X4_isTag
set_option maxRecDepth 20000 in
theorem ggX4_begin_X4_openTag : GoodIn wsX4_begin wsX4_openTag := goodIn_r _ [14, 2, 6, 5, 15, 16, 17, 18, 19, 20, 21, 22, 23, 24, 25, 26, 27, 28, 29, 30, 31, 32, 33, 34, 35, 36] (by decide +kernel) (by decide +kernel)
set_option maxRecDepth 20000 in
theorem gX4_begin_X4_openTag : GoodIn wsX4_begin (wsV RX4 121 RX4 yX4_openTag wsX4_openTag) := goodIn_app (goodIn_of _ (by decide +kernel)) ggX4_begin_X4_openTag
theorem dX4_begin_0 : decode cX4_begin 0 = .ok (.aload_n 0, 1) := by decide +kernel
theorem dX4_begin_1 : decode cX4_begin 1 = .ok (.iconst 0, 1) := by decide +kernel
theorem dX4_begin_2 : decode cX4_begin 2 = .ok (.putfield 41, 3) := by decide +kernel
theorem dX4_begin_5 : decode cX4_begin 5 = .ok (.iload_n 1, 1) := by decide +kernel
theorem dX4_begin_6 : decode cX4_begin 6 = .ok (.invokestatic 75, 3) := by decide +kernel
theorem dX4_begin_9 : decode cX4_begin 9 = .ok (.ifCond .ne 5, 3) := by decide +kernel
theorem dX4_begin_12 : decode cX4_begin 12 = .ok (.iconst (-1), 1) := by decide +kernel
theorem dX4_begin_13 : decode cX4_begin 13 = .ok (.ireturn, 1) := by decide +kernel
theorem dX4_begin_14 : decode cX4_begin 14 = .ok (.aload_n 0, 1) := by decide +kernel
theorem dX4_begin_15 : decode cX4_begin 15 = .ok (.getfield 115, 3) := by decide +kernel
theorem dX4_begin_18 : decode cX4_begin 18 = .ok (.ifCond .le 12, 3) := by decide +kernel
theorem dX4_begin_21 : decode cX4_begin 21 = .ok (.aload_n 0, 1) := by decide +kernel
theorem dX4_begin_22 : decode cX4_begin 22 = .ok (.invokevirtual 121, 3) := by decide +kernel
theorem dX4_begin_25 : decode cX4_begin 25 = .ok (.bipush 48, 2) := by decide +kernel
theorem dX4_begin_27 : decode cX4_begin 27 = .ok (.if_icmp .ne 10, 3) := by decide +kernel
theorem dX4_begin_30 : decode cX4_begin 30 = .ok (.aload_n 0, 1) := by decide +kernel
theorem dX4_begin_31 : decode cX4_begin 31 = .ok (.getfield 118, 3) := by decide +kernel
theorem dX4_begin_34 : decode cX4_begin 34 = .ok (.ifCond .eq 6, 3) := by decide +kernel
theorem dX4_begin_37 : decode cX4_begin 37 = .ok (.bipush (-2), 2) := by decide +kernel
theorem dX4_begin_39 : decode cX4_begin 39 = .ok (.ireturn, 1) := by decide +kernel
theorem dX4_begin_40 : decode cX4_begin 40 = .ok (.aload_n 0, 1) := by decide +kernel
theorem dX4_begin_41 : decode cX4_begin 41 = .ok (.getfield 115, 3) := by decide +kernel
theorem dX4_begin_44 : decode cX4_begin 44 = .ok (.bipush 16, 2) := by decide +kernel
theorem dX4_begin_46 : decode cX4_begin 46 = .ok (.if_icmp .eq 13, 3) := by decide +kernel
theorem dX4_begin_49 : decode cX4_begin 49 = .ok (.aload_n 0, 1) := by decide +kernel
theorem dX4_begin_50 : decode cX4_begin 50 = .ok (.getfield 112, 3) := by decide +kernel
theorem dX4_begin_53 : decode cX4_begin 53 = .ok (.sipush 300, 3) := by decide +kernel
theorem dX4_begin_56 : decode cX4_begin 56 = .ok (.if_icmp .ne 6, 3) := by decide +kernel
theorem dX4_begin_59 : decode cX4_begin 59 = .ok (.bipush (-3), 2) := by decide +kernel
theorem dX4_begin_61 : decode cX4_begin 61 = .ok (.ireturn, 1) := by decide +kernel
theorem dX4_begin_62 : decode cX4_begin 62 = .ok (.aload_n 0, 1) := by decide +kernel
theorem dX4_begin_63 : decode cX4_begin 63 = .ok (.getfield 38, 3) := by decide +kernel
theorem dX4_begin_66 : decode cX4_begin 66 = .ok (.aload_n 0, 1) := by decide +kernel
theorem dX4_begin_67 : decode cX4_begin 67 = .ok (.getfield 115, 3) := by decide +kernel
theorem dX4_begin_70 : decode cX4_begin 70 = .ok (.aload_n 0, 1) := by decide +kernel
theorem dX4_begin_71 : decode cX4_begin 71 = .ok (.getfield 112, 3) := by decide +kernel
theorem dX4_begin_74 : decode cX4_begin 74 = .ok (.iastore, 1) := by decide +kernel
theorem dX4_begin_75 : decode cX4_begin 75 = .ok (.aload_n 0, 1) := by decide +kernel
theorem dX4_begin_76 : decode cX4_begin 76 = .ok (.dup, 1) := by decide +kernel
theorem dX4_begin_77 : decode cX4_begin 77 = .ok (.getfield 115, 3) := by decide +kernel
theorem dX4_begin_80 : decode cX4_begin 80 = .ok (.iconst 1, 1) := by decide +kernel
theorem dX4_begin_81 : decode cX4_begin 81 = .ok (.iadd, 1) := by decide +kernel
theorem dX4_begin_82 : decode cX4_begin 82 = .ok (.putfield 115, 3) := by decide +kernel
theorem dX4_begin_85 : decode cX4_begin 85 = .ok (.aload_n 0, 1) := by decide +kernel
theorem dX4_begin_86 : decode cX4_begin 86 = .ok (.getfield 35, 3) := by decide +kernel
theorem dX4_begin_89 : decode cX4_begin 89 = .ok (.aload_n 0, 1) := by decide +kernel
theorem dX4_begin_90 : decode cX4_begin 90 = .ok (.getfield 112, 3) := by decide +kernel
theorem dX4_begin_93 : decode cX4_begin 93 = .ok (.iload_n 1, 1) := by decide +kernel
theorem dX4_begin_94 : decode cX4_begin 94 = .ok (.iastore, 1) := by decide +kernel
theorem dX4_begin_95 : decode cX4_begin 95 = .ok (.aload_n 0, 1) := by decide +kernel
theorem dX4_begin_96 : decode cX4_begin 96 = .ok (.dup, 1) := by decide +kernel
theorem dX4_begin_97 : decode cX4_begin 97 = .ok (.getfield 112, 3) := by decide +kernel
theorem dX4_begin_100 : decode cX4_begin 100 = .ok (.iconst 1, 1) := by decide +kernel
theorem dX4_begin_101 : decode cX4_begin 101 = .ok (.iadd, 1) := by decide +kernel
theorem dX4_begin_102 : decode cX4_begin 102 = .ok (.putfield 112, 3) := by decide +kernel
theorem dX4_begin_105 : decode cX4_begin 105 = .ok (.iconst 0, 1) := by decide +kernel
theorem dX4_begin_106 : decode cX4_begin 106 = .ok (.ireturn, 1) := by decide +kernel
set_option maxRecDepth 20000 in
theorem ggX4_putByte_X4_isByte : GoodIn wsX4_putByte wsX4_isByte := goodIn_r _ [8] (by decide +kernel) (by decide +kernel)
set_option maxRecDepth 20000 in
theorem gX4_putByte_X4_isByte : GoodIn wsX4_putByte (va_wsS RX4 44 yX4_isByte wsX4_isByte) := goodIn_app (goodIn_of _ (by decide +kernel)) ggX4_putByte_X4_isByte
set_option maxRecDepth 20000 in
theorem ggX4_putByte_X4_openTag : GoodIn wsX4_putByte wsX4_openTag := goodIn_r _ [12, 2, 4, 13, 14, 15, 16, 17, 18, 19, 20, 21, 22, 23, 24, 25, 26, 27, 28, 29, 30, 31, 32, 33, 34, 35] (by decide +kernel) (by decide +kernel)
set_option maxRecDepth 20000 in
theorem gX4_putByte_X4_openTag : GoodIn wsX4_putByte (wsV RX4 121 RX4 yX4_openTag wsX4_openTag) := goodIn_app (goodIn_of _ (by decide +kernel)) ggX4_putByte_X4_openTag
theorem dX4_putByte_0 : decode cX4_putByte 0 = .ok (.aload_n 0, 1) := by decide +kernel
theorem dX4_putByte_1 : decode cX4_putByte 1 = .ok (.iconst 0, 1) := by decide +kernel
theorem dX4_putByte_2 : decode cX4_putByte 2 = .ok (.putfield 41, 3) := by decide +kernel
theorem dX4_putByte_5 : decode cX4_putByte 5 = .ok (.iload_n 1, 1) := by decide +kernel
theorem dX4_putByte_6 : decode cX4_putByte 6 = .ok (.invokestatic 44, 3) := by decide +kernel
theorem dX4_putByte_9 : decode cX4_putByte 9 = .ok (.ifCond .ne 5, 3) := by decide +kernel
theorem dX4_putByte_12 : decode cX4_putByte 12 = .ok (.iconst (-1), 1) := by decide +kernel
theorem dX4_putByte_13 : decode cX4_putByte 13 = .ok (.ireturn, 1) := by decide +kernel
theorem dX4_putByte_14 : decode cX4_putByte 14 = .ok (.aload_n 0, 1) := by decide +kernel
theorem dX4_putByte_15 : decode cX4_putByte 15 = .ok (.getfield 115, 3) := by decide +kernel
theorem dX4_putByte_18 : decode cX4_putByte 18 = .ok (.ifCond .eq 12, 3) := by decide +kernel
theorem dX4_putByte_21 : decode cX4_putByte 21 = .ok (.aload_n 0, 1) := by decide +kernel
theorem dX4_putByte_22 : decode cX4_putByte 22 = .ok (.invokevirtual 121, 3) := by decide +kernel
theorem dX4_putByte_25 : decode cX4_putByte 25 = .ok (.bipush 48, 2) := by decide +kernel
theorem dX4_putByte_27 : decode cX4_putByte 27 = .ok (.if_icmp .ne 6, 3) := by decide +kernel
theorem dX4_putByte_30 : decode cX4_putByte 30 = .ok (.bipush (-2), 2) := by decide +kernel
theorem dX4_putByte_32 : decode cX4_putByte 32 = .ok (.ireturn, 1) := by decide +kernel
theorem dX4_putByte_33 : decode cX4_putByte 33 = .ok (.aload_n 0, 1) := by decide +kernel
theorem dX4_putByte_34 : decode cX4_putByte 34 = .ok (.getfield 112, 3) := by decide +kernel
theorem dX4_putByte_37 : decode cX4_putByte 37 = .ok (.sipush 300, 3) := by decide +kernel
theorem dX4_putByte_40 : decode cX4_putByte 40 = .ok (.if_icmp .ne 6, 3) := by decide +kernel
theorem dX4_putByte_43 : decode cX4_putByte 43 = .ok (.bipush (-3), 2) := by decide +kernel
theorem dX4_putByte_45 : decode cX4_putByte 45 = .ok (.ireturn, 1) := by decide +kernel
theorem dX4_putByte_46 : decode cX4_putByte 46 = .ok (.aload_n 0, 1) := by decide +kernel
theorem dX4_putByte_47 : decode cX4_putByte 47 = .ok (.getfield 35, 3) := by decide +kernel
theorem dX4_putByte_50 : decode cX4_putByte 50 = .ok (.aload_n 0, 1) := by decide +kernel
theorem dX4_putByte_51 : decode cX4_putByte 51 = .ok (.getfield 112, 3) := by decide +kernel
theorem dX4_putByte_54 : decode cX4_putByte 54 = .ok (.iload_n 1, 1) := by decide +kernel
theorem dX4_putByte_55 : decode cX4_putByte 55 = .ok (.iastore, 1) := by decide +kernel
theorem dX4_putByte_56 : decode cX4_putByte 56 = .ok (.aload_n 0, 1) := by decide +kernel
theorem dX4_putByte_57 : decode cX4_putByte 57 = .ok (.dup, 1) := by decide +kernel
theorem dX4_putByte_58 : decode cX4_putByte 58 = .ok (.getfield 112, 3) := by decide +kernel
theorem dX4_putByte_61 : decode cX4_putByte 61 = .ok (.iconst 1, 1) := by decide +kernel
theorem dX4_putByte_62 : decode cX4_putByte 62 = .ok (.iadd, 1) := by decide +kernel
theorem dX4_putByte_63 : decode cX4_putByte 63 = .ok (.putfield 112, 3) := by decide +kernel
theorem dX4_putByte_66 : decode cX4_putByte 66 = .ok (.iconst 0, 1) := by decide +kernel
theorem dX4_putByte_67 : decode cX4_putByte 67 = .ok (.ireturn, 1) := by decide +kernel
set_option maxRecDepth 20000 in
theorem ggX4_putInt_X4_openTag : GoodIn wsX4_putInt wsX4_openTag := goodIn_r _ [10, 2, 5, 4, 11, 12, 13, 14, 15, 16, 17, 18, 19, 20, 21, 22, 23, 24, 25, 26, 27, 28, 29, 30, 31, 32] (by decide +kernel) (by decide +kernel)
set_option maxRecDepth 20000 in
theorem gX4_putInt_X4_openTag : GoodIn wsX4_putInt (wsV RX4 121 RX4 yX4_openTag wsX4_openTag) := goodIn_app (goodIn_of _ (by decide +kernel)) ggX4_putInt_X4_openTag
theorem dX4_putInt_0 : decode cX4_putInt 0 = .ok (.aload_n 0, 1) := by decide +kernel
theorem dX4_putInt_1 : decode cX4_putInt 1 = .ok (.iconst 0, 1) := by decide +kernel
theorem dX4_putInt_2 : decode cX4_putInt 2 = .ok (.putfield 41, 3) := by decide +kernel
theorem dX4_putInt_5 : decode cX4_putInt 5 = .ok (.aload_n 0, 1) := by decide +kernel
theorem dX4_putInt_6 : decode cX4_putInt 6 = .ok (.getfield 115, 3) := by decide +kernel
theorem dX4_putInt_9 : decode cX4_putInt 9 = .ok (.ifCond .eq 31, 3) := by decide +kernel
theorem dX4_putInt_12 : decode cX4_putInt 12 = .ok (.aload_n 0, 1) := by decide +kernel
theorem dX4_putInt_13 : decode cX4_putInt 13 = .ok (.invokevirtual 121, 3) := by decide +kernel
theorem dX4_putInt_16 : decode cX4_putInt 16 = .ok (.iconst 2, 1) := by decide +kernel
theorem dX4_putInt_17 : decode cX4_putInt 17 = .ok (.if_icmp .ne 23, 3) := by decide +kernel
theorem dX4_putInt_20 : decode cX4_putInt 20 = .ok (.aload_n 0, 1) := by decide +kernel
theorem dX4_putInt_21 : decode cX4_putInt 21 = .ok (.getfield 112, 3) := by decide +kernel
theorem dX4_putInt_24 : decode cX4_putInt 24 = .ok (.aload_n 0, 1) := by decide +kernel
theorem dX4_putInt_25 : decode cX4_putInt 25 = .ok (.getfield 38, 3) := by decide +kernel
theorem dX4_putInt_28 : decode cX4_putInt 28 = .ok (.aload_n 0, 1) := by decide +kernel
theorem dX4_putInt_29 : decode cX4_putInt 29 = .ok (.getfield 115, 3) := by decide +kernel
theorem dX4_putInt_32 : decode cX4_putInt 32 = .ok (.iconst 1, 1) := by decide +kernel
theorem dX4_putInt_33 : decode cX4_putInt 33 = .ok (.isub, 1) := by decide +kernel
theorem dX4_putInt_34 : decode cX4_putInt 34 = .ok (.iaload, 1) := by decide +kernel
theorem dX4_putInt_35 : decode cX4_putInt 35 = .ok (.iconst 1, 1) := by decide +kernel
theorem dX4_putInt_36 : decode cX4_putInt 36 = .ok (.iadd, 1) := by decide +kernel
theorem dX4_putInt_37 : decode cX4_putInt 37 = .ok (.if_icmp .eq 6, 3) := by decide +kernel
theorem dX4_putInt_40 : decode cX4_putInt 40 = .ok (.bipush (-2), 2) := by decide +kernel
theorem dX4_putInt_42 : decode cX4_putInt 42 = .ok (.ireturn, 1) := by decide +kernel
theorem dX4_putInt_43 : decode cX4_putInt 43 = .ok (.iconst 4, 1) := by decide +kernel
theorem dX4_putInt_44 : decode cX4_putInt 44 = .ok (.istore_n 2, 1) := by decide +kernel
theorem dX4_putInt_45 : decode cX4_putInt 45 = .ok (.iload_n 2, 1) := by decide +kernel
theorem dX4_putInt_46 : decode cX4_putInt 46 = .ok (.iconst 1, 1) := by decide +kernel
theorem dX4_putInt_47 : decode cX4_putInt 47 = .ok (.if_icmp .le 34, 3) := by decide +kernel
theorem dX4_putInt_50 : decode cX4_putInt 50 = .ok (.iload_n 1, 1) := by decide +kernel
theorem dX4_putInt_51 : decode cX4_putInt 51 = .ok (.bipush 32, 2) := by decide +kernel
theorem dX4_putInt_53 : decode cX4_putInt 53 = .ok (.bipush 8, 2) := by decide +kernel
theorem dX4_putInt_55 : decode cX4_putInt 55 = .ok (.iload_n 2, 1) := by decide +kernel
theorem dX4_putInt_56 : decode cX4_putInt 56 = .ok (.iconst 1, 1) := by decide +kernel
theorem dX4_putInt_57 : decode cX4_putInt 57 = .ok (.isub, 1) := by decide +kernel
theorem dX4_putInt_58 : decode cX4_putInt 58 = .ok (.imul, 1) := by decide +kernel
theorem dX4_putInt_59 : decode cX4_putInt 59 = .ok (.isub, 1) := by decide +kernel
theorem dX4_putInt_60 : decode cX4_putInt 60 = .ok (.ishl, 1) := by decide +kernel
theorem dX4_putInt_61 : decode cX4_putInt 61 = .ok (.bipush 32, 2) := by decide +kernel
theorem dX4_putInt_63 : decode cX4_putInt 63 = .ok (.bipush 8, 2) := by decide +kernel
theorem dX4_putInt_65 : decode cX4_putInt 65 = .ok (.iload_n 2, 1) := by decide +kernel
theorem dX4_putInt_66 : decode cX4_putInt 66 = .ok (.iconst 1, 1) := by decide +kernel
theorem dX4_putInt_67 : decode cX4_putInt 67 = .ok (.isub, 1) := by decide +kernel
theorem dX4_putInt_68 : decode cX4_putInt 68 = .ok (.imul, 1) := by decide +kernel
theorem dX4_putInt_69 : decode cX4_putInt 69 = .ok (.isub, 1) := by decide +kernel
theorem dX4_putInt_70 : decode cX4_putInt 70 = .ok (.ishr, 1) := by decide +kernel
theorem dX4_putInt_71 : decode cX4_putInt 71 = .ok (.iload_n 1, 1) := by decide +kernel
theorem dX4_putInt_72 : decode cX4_putInt 72 = .ok (.if_icmp .ne 9, 3) := by decide +kernel
theorem dX4_putInt_75 : decode cX4_putInt 75 = .ok (.iinc 2 (-1), 3) := by decide +kernel
theorem dX4_putInt_78 : decode cX4_putInt 78 = .ok (.goto (-33), 3) := by decide +kernel
theorem dX4_putInt_81 : decode cX4_putInt 81 = .ok (.aload_n 0, 1) := by decide +kernel
theorem dX4_putInt_82 : decode cX4_putInt 82 = .ok (.getfield 112, 3) := by decide +kernel
theorem dX4_putInt_85 : decode cX4_putInt 85 = .ok (.iload_n 2, 1) := by decide +kernel
theorem dX4_putInt_86 : decode cX4_putInt 86 = .ok (.iadd, 1) := by decide +kernel
theorem dX4_putInt_87 : decode cX4_putInt 87 = .ok (.sipush 300, 3) := by decide +kernel
theorem dX4_putInt_90 : decode cX4_putInt 90 = .ok (.if_icmp .le 6, 3) := by decide +kernel
theorem dX4_putInt_93 : decode cX4_putInt 93 = .ok (.bipush (-3), 2) := by decide +kernel
theorem dX4_putInt_95 : decode cX4_putInt 95 = .ok (.ireturn, 1) := by decide +kernel
theorem dX4_putInt_96 : decode cX4_putInt 96 = .ok (.iload_n 2, 1) := by decide +kernel
theorem dX4_putInt_97 : decode cX4_putInt 97 = .ok (.iconst 1, 1) := by decide +kernel
theorem dX4_putInt_98 : decode cX4_putInt 98 = .ok (.isub, 1) := by decide +kernel
theorem dX4_putInt_99 : decode cX4_putInt 99 = .ok (.istore_n 3, 1) := by decide +kernel
theorem dX4_putInt_100 : decode cX4_putInt 100 = .ok (.iload_n 3, 1) := by decide +kernel
theorem dX4_putInt_101 : decode cX4_putInt 101 = .ok (.ifCond .lt 38, 3) := by decide +kernel
theorem dX4_putInt_104 : decode cX4_putInt 104 = .ok (.aload_n 0, 1) := by decide +kernel
theorem dX4_putInt_105 : decode cX4_putInt 105 = .ok (.getfield 35, 3) := by decide +kernel
theorem dX4_putInt_108 : decode cX4_putInt 108 = .ok (.aload_n 0, 1) := by decide +kernel
theorem dX4_putInt_109 : decode cX4_putInt 109 = .ok (.getfield 112, 3) := by decide +kernel
theorem dX4_putInt_112 : decode cX4_putInt 112 = .ok (.iload_n 1, 1) := by decide +kernel
theorem dX4_putInt_113 : decode cX4_putInt 113 = .ok (.bipush 8, 2) := by decide +kernel
theorem dX4_putInt_115 : decode cX4_putInt 115 = .ok (.iload_n 3, 1) := by decide +kernel
theorem dX4_putInt_116 : decode cX4_putInt 116 = .ok (.imul, 1) := by decide +kernel
theorem dX4_putInt_117 : decode cX4_putInt 117 = .ok (.ishr, 1) := by decide +kernel
theorem dX4_putInt_118 : decode cX4_putInt 118 = .ok (.sipush 255, 3) := by decide +kernel
theorem dX4_putInt_121 : decode cX4_putInt 121 = .ok (.iand, 1) := by decide +kernel
theorem dX4_putInt_122 : decode cX4_putInt 122 = .ok (.iastore, 1) := by decide +kernel
theorem dX4_putInt_123 : decode cX4_putInt 123 = .ok (.aload_n 0, 1) := by decide +kernel
theorem dX4_putInt_124 : decode cX4_putInt 124 = .ok (.dup, 1) := by decide +kernel
theorem dX4_putInt_125 : decode cX4_putInt 125 = .ok (.getfield 112, 3) := by decide +kernel
theorem dX4_putInt_128 : decode cX4_putInt 128 = .ok (.iconst 1, 1) := by decide +kernel
theorem dX4_putInt_129 : decode cX4_putInt 129 = .ok (.iadd, 1) := by decide +kernel
theorem dX4_putInt_130 : decode cX4_putInt 130 = .ok (.putfield 112, 3) := by decide +kernel
theorem dX4_putInt_133 : decode cX4_putInt 133 = .ok (.iinc 3 (-1), 3) := by decide +kernel
theorem dX4_putInt_136 : decode cX4_putInt 136 = .ok (.goto (-36), 3) := by decide +kernel
theorem dX4_putInt_139 : decode cX4_putInt 139 = .ok (.iconst 0, 1) := by decide +kernel
theorem dX4_putInt_140 : decode cX4_putInt 140 = .ok (.ireturn, 1) := by decide +kernel
set_option maxRecDepth 20000 in
theorem ggX4_putPart_X4_openTag : GoodIn wsX4_putPart wsX4_openTag := goodIn_r _ [9, 2, 4, 10, 11, 12, 13, 14, 15, 16, 17, 18, 19, 20, 21, 22, 23, 24, 25, 26, 27, 28, 29, 30, 31, 32] (by decide +kernel) (by decide +kernel)
set_option maxRecDepth 20000 in
theorem gX4_putPart_X4_openTag : GoodIn wsX4_putPart (wsV RX4 121 RX4 yX4_openTag wsX4_openTag) := goodIn_app (goodIn_of _ (by decide +kernel)) ggX4_putPart_X4_openTag
theorem dX4_putPart_0 : decode cX4_putPart 0 = .ok (.aload_n 0, 1) := by decide +kernel
theorem dX4_putPart_1 : decode cX4_putPart 1 = .ok (.iconst 0, 1) := by decide +kernel
theorem dX4_putPart_2 : decode cX4_putPart 2 = .ok (.putfield 41, 3) := by decide +kernel
theorem dX4_putPart_5 : decode cX4_putPart 5 = .ok (.iload_n 1, 1) := by decide +kernel
theorem dX4_putPart_6 : decode cX4_putPart 6 = .ok (.ifCond .ge 5, 3) := by decide +kernel
theorem dX4_putPart_9 : decode cX4_putPart 9 = .ok (.iconst (-1), 1) := by decide +kernel
theorem dX4_putPart_10 : decode cX4_putPart 10 = .ok (.ireturn, 1) := by decide +kernel
theorem dX4_putPart_11 : decode cX4_putPart 11 = .ok (.aload_n 0, 1) := by decide +kernel
theorem dX4_putPart_12 : decode cX4_putPart 12 = .ok (.getfield 115, 3) := by decide +kernel
theorem dX4_putPart_15 : decode cX4_putPart 15 = .ok (.ifCond .eq 12, 3) := by decide +kernel
theorem dX4_putPart_18 : decode cX4_putPart 18 = .ok (.aload_n 0, 1) := by decide +kernel
theorem dX4_putPart_19 : decode cX4_putPart 19 = .ok (.invokevirtual 121, 3) := by decide +kernel
theorem dX4_putPart_22 : decode cX4_putPart 22 = .ok (.bipush 6, 2) := by decide +kernel
theorem dX4_putPart_24 : decode cX4_putPart 24 = .ok (.if_icmp .eq 6, 3) := by decide +kernel
theorem dX4_putPart_27 : decode cX4_putPart 27 = .ok (.bipush (-2), 2) := by decide +kernel
theorem dX4_putPart_29 : decode cX4_putPart 29 = .ok (.ireturn, 1) := by decide +kernel
theorem dX4_putPart_30 : decode cX4_putPart 30 = .ok (.iconst 1, 1) := by decide +kernel
theorem dX4_putPart_31 : decode cX4_putPart 31 = .ok (.istore_n 2, 1) := by decide +kernel
theorem dX4_putPart_32 : decode cX4_putPart 32 = .ok (.iload_n 2, 1) := by decide +kernel
theorem dX4_putPart_33 : decode cX4_putPart 33 = .ok (.iconst 5, 1) := by decide +kernel
theorem dX4_putPart_34 : decode cX4_putPart 34 = .ok (.if_icmp .ge 18, 3) := by decide +kernel
theorem dX4_putPart_37 : decode cX4_putPart 37 = .ok (.iload_n 1, 1) := by decide +kernel
theorem dX4_putPart_38 : decode cX4_putPart 38 = .ok (.bipush 7, 2) := by decide +kernel
theorem dX4_putPart_40 : decode cX4_putPart 40 = .ok (.iload_n 2, 1) := by decide +kernel
theorem dX4_putPart_41 : decode cX4_putPart 41 = .ok (.imul, 1) := by decide +kernel
theorem dX4_putPart_42 : decode cX4_putPart 42 = .ok (.ishr, 1) := by decide +kernel
theorem dX4_putPart_43 : decode cX4_putPart 43 = .ok (.ifCond .le 9, 3) := by decide +kernel
theorem dX4_putPart_46 : decode cX4_putPart 46 = .ok (.iinc 2 1, 3) := by decide +kernel
theorem dX4_putPart_49 : decode cX4_putPart 49 = .ok (.goto (-17), 3) := by decide +kernel
theorem dX4_putPart_52 : decode cX4_putPart 52 = .ok (.aload_n 0, 1) := by decide +kernel
theorem dX4_putPart_53 : decode cX4_putPart 53 = .ok (.getfield 112, 3) := by decide +kernel
theorem dX4_putPart_56 : decode cX4_putPart 56 = .ok (.iload_n 2, 1) := by decide +kernel
theorem dX4_putPart_57 : decode cX4_putPart 57 = .ok (.iadd, 1) := by decide +kernel
theorem dX4_putPart_58 : decode cX4_putPart 58 = .ok (.sipush 300, 3) := by decide +kernel
theorem dX4_putPart_61 : decode cX4_putPart 61 = .ok (.if_icmp .le 6, 3) := by decide +kernel
theorem dX4_putPart_64 : decode cX4_putPart 64 = .ok (.bipush (-3), 2) := by decide +kernel
theorem dX4_putPart_66 : decode cX4_putPart 66 = .ok (.ireturn, 1) := by decide +kernel
theorem dX4_putPart_67 : decode cX4_putPart 67 = .ok (.iload_n 2, 1) := by decide +kernel
theorem dX4_putPart_68 : decode cX4_putPart 68 = .ok (.iconst 1, 1) := by decide +kernel
theorem dX4_putPart_69 : decode cX4_putPart 69 = .ok (.isub, 1) := by decide +kernel
theorem dX4_putPart_70 : decode cX4_putPart 70 = .ok (.istore_n 3, 1) := by decide +kernel
theorem dX4_putPart_71 : decode cX4_putPart 71 = .ok (.iload_n 3, 1) := by decide +kernel
theorem dX4_putPart_72 : decode cX4_putPart 72 = .ok (.ifCond .lt 49, 3) := by decide +kernel
theorem dX4_putPart_75 : decode cX4_putPart 75 = .ok (.aload_n 0, 1) := by decide +kernel
theorem dX4_putPart_76 : decode cX4_putPart 76 = .ok (.getfield 35, 3) := by decide +kernel
theorem dX4_putPart_79 : decode cX4_putPart 79 = .ok (.aload_n 0, 1) := by decide +kernel
theorem dX4_putPart_80 : decode cX4_putPart 80 = .ok (.getfield 112, 3) := by decide +kernel
theorem dX4_putPart_83 : decode cX4_putPart 83 = .ok (.iload_n 1, 1) := by decide +kernel
theorem dX4_putPart_84 : decode cX4_putPart 84 = .ok (.bipush 7, 2) := by decide +kernel
theorem dX4_putPart_86 : decode cX4_putPart 86 = .ok (.iload_n 3, 1) := by decide +kernel
theorem dX4_putPart_87 : decode cX4_putPart 87 = .ok (.imul, 1) := by decide +kernel
theorem dX4_putPart_88 : decode cX4_putPart 88 = .ok (.ishr, 1) := by decide +kernel
theorem dX4_putPart_89 : decode cX4_putPart 89 = .ok (.bipush 127, 2) := by decide +kernel
theorem dX4_putPart_91 : decode cX4_putPart 91 = .ok (.iand, 1) := by decide +kernel
theorem dX4_putPart_92 : decode cX4_putPart 92 = .ok (.iload_n 3, 1) := by decide +kernel
theorem dX4_putPart_93 : decode cX4_putPart 93 = .ok (.ifCond .le 9, 3) := by decide +kernel
theorem dX4_putPart_96 : decode cX4_putPart 96 = .ok (.sipush 128, 3) := by decide +kernel
theorem dX4_putPart_99 : decode cX4_putPart 99 = .ok (.goto 4, 3) := by decide +kernel
theorem dX4_putPart_102 : decode cX4_putPart 102 = .ok (.iconst 0, 1) := by decide +kernel
theorem dX4_putPart_103 : decode cX4_putPart 103 = .ok (.iadd, 1) := by decide +kernel
theorem dX4_putPart_104 : decode cX4_putPart 104 = .ok (.iastore, 1) := by decide +kernel
theorem dX4_putPart_105 : decode cX4_putPart 105 = .ok (.aload_n 0, 1) := by decide +kernel
theorem dX4_putPart_106 : decode cX4_putPart 106 = .ok (.dup, 1) := by decide +kernel
theorem dX4_putPart_107 : decode cX4_putPart 107 = .ok (.getfield 112, 3) := by decide +kernel
theorem dX4_putPart_110 : decode cX4_putPart 110 = .ok (.iconst 1, 1) := by decide +kernel
theorem dX4_putPart_111 : decode cX4_putPart 111 = .ok (.iadd, 1) := by decide +kernel
theorem dX4_putPart_112 : decode cX4_putPart 112 = .ok (.putfield 112, 3) := by decide +kernel
theorem dX4_putPart_115 : decode cX4_putPart 115 = .ok (.iinc 3 (-1), 3) := by decide +kernel
theorem dX4_putPart_118 : decode cX4_putPart 118 = .ok (.goto (-47), 3) := by decide +kernel
theorem dX4_putPart_121 : decode cX4_putPart 121 = .ok (.iconst 0, 1) := by decide +kernel
theorem dX4_putPart_122 : decode cX4_putPart 122 = .ok (.ireturn, 1) := by decide +kernel
set_option maxRecDepth 20000 in
theorem ggX4_end_X4_isRight : GoodIn wsX4_end wsX4_isRight := goodIn_r _ [12, 5, 13, 14, 15, 16, 17, 18, 19, 20, 21, 22, 23, 24, 25, 26, 27, 28, 29, 30, 31, 32, 33, 34] (by decide +kernel) (by decide +kernel)
set_option maxRecDepth 20000 in
theorem gX4_end_X4_isRight : GoodIn wsX4_end (wsV RX4 85 RX4 yX4_isRight wsX4_isRight) := goodIn_app (goodIn_of _ (by decide +kernel)) ggX4_end_X4_isRight
theorem dX4_end_0 : decode cX4_end 0 = .ok (.aload_n 0, 1) := by decide +kernel
theorem dX4_end_1 : decode cX4_end 1 = .ok (.iconst 0, 1) := by decide +kernel
theorem dX4_end_2 : decode cX4_end 2 = .ok (.putfield 41, 3) := by decide +kernel
theorem dX4_end_5 : decode cX4_end 5 = .ok (.aload_n 0, 1) := by decide +kernel
theorem dX4_end_6 : decode cX4_end 6 = .ok (.getfield 115, 3) := by decide +kernel
theorem dX4_end_9 : decode cX4_end 9 = .ok (.ifCond .ne 6, 3) := by decide +kernel
theorem dX4_end_12 : decode cX4_end 12 = .ok (.bipush (-2), 2) := by decide +kernel
theorem dX4_end_14 : decode cX4_end 14 = .ok (.ireturn, 1) := by decide +kernel
theorem dX4_end_15 : decode cX4_end 15 = .ok (.aload_n 0, 1) := by decide +kernel
theorem dX4_end_16 : decode cX4_end 16 = .ok (.getfield 38, 3) := by decide +kernel
theorem dX4_end_19 : decode cX4_end 19 = .ok (.aload_n 0, 1) := by decide +kernel
theorem dX4_end_20 : decode cX4_end 20 = .ok (.getfield 115, 3) := by decide +kernel
theorem dX4_end_23 : decode cX4_end 23 = .ok (.iconst 1, 1) := by decide +kernel
theorem dX4_end_24 : decode cX4_end 24 = .ok (.isub, 1) := by decide +kernel
theorem dX4_end_25 : decode cX4_end 25 = .ok (.iaload, 1) := by decide +kernel
theorem dX4_end_26 : decode cX4_end 26 = .ok (.istore_n 1, 1) := by decide +kernel
theorem dX4_end_27 : decode cX4_end 27 = .ok (.aload_n 0, 1) := by decide +kernel
theorem dX4_end_28 : decode cX4_end 28 = .ok (.getfield 112, 3) := by decide +kernel
theorem dX4_end_31 : decode cX4_end 31 = .ok (.iload_n 1, 1) := by decide +kernel
theorem dX4_end_32 : decode cX4_end 32 = .ok (.isub, 1) := by decide +kernel
theorem dX4_end_33 : decode cX4_end 33 = .ok (.iconst 1, 1) := by decide +kernel
theorem dX4_end_34 : decode cX4_end 34 = .ok (.isub, 1) := by decide +kernel
theorem dX4_end_35 : decode cX4_end 35 = .ok (.istore_n 2, 1) := by decide +kernel
theorem dX4_end_36 : decode cX4_end 36 = .ok (.iconst 0, 1) := by decide +kernel
theorem dX4_end_37 : decode cX4_end 37 = .ok (.istore_n 3, 1) := by decide +kernel
theorem dX4_end_38 : decode cX4_end 38 = .ok (.iload_n 3, 1) := by decide +kernel
theorem dX4_end_39 : decode cX4_end 39 = .ok (.iload_n 2, 1) := by decide +kernel
theorem dX4_end_40 : decode cX4_end 40 = .ok (.if_icmp .ge 25, 3) := by decide +kernel
theorem dX4_end_43 : decode cX4_end 43 = .ok (.aload_n 0, 1) := by decide +kernel
theorem dX4_end_44 : decode cX4_end 44 = .ok (.getfield 32, 3) := by decide +kernel
theorem dX4_end_47 : decode cX4_end 47 = .ok (.iload_n 3, 1) := by decide +kernel
theorem dX4_end_48 : decode cX4_end 48 = .ok (.aload_n 0, 1) := by decide +kernel
theorem dX4_end_49 : decode cX4_end 49 = .ok (.getfield 35, 3) := by decide +kernel
theorem dX4_end_52 : decode cX4_end 52 = .ok (.iload_n 1, 1) := by decide +kernel
theorem dX4_end_53 : decode cX4_end 53 = .ok (.iconst 1, 1) := by decide +kernel
theorem dX4_end_54 : decode cX4_end 54 = .ok (.iadd, 1) := by decide +kernel
theorem dX4_end_55 : decode cX4_end 55 = .ok (.iload_n 3, 1) := by decide +kernel
theorem dX4_end_56 : decode cX4_end 56 = .ok (.iadd, 1) := by decide +kernel
theorem dX4_end_57 : decode cX4_end 57 = .ok (.iaload, 1) := by decide +kernel
theorem dX4_end_58 : decode cX4_end 58 = .ok (.iastore, 1) := by decide +kernel
theorem dX4_end_59 : decode cX4_end 59 = .ok (.iinc 3 1, 3) := by decide +kernel
theorem dX4_end_62 : decode cX4_end 62 = .ok (.goto (-24), 3) := by decide +kernel
theorem dX4_end_65 : decode cX4_end 65 = .ok (.aload_n 0, 1) := by decide +kernel
theorem dX4_end_66 : decode cX4_end 66 = .ok (.aload_n 0, 1) := by decide +kernel
theorem dX4_end_67 : decode cX4_end 67 = .ok (.getfield 35, 3) := by decide +kernel
theorem dX4_end_70 : decode cX4_end 70 = .ok (.iload_n 1, 1) := by decide +kernel
theorem dX4_end_71 : decode cX4_end 71 = .ok (.iaload, 1) := by decide +kernel
theorem dX4_end_72 : decode cX4_end 72 = .ok (.iload_n 2, 1) := by decide +kernel
theorem dX4_end_73 : decode cX4_end 73 = .ok (.invokevirtual 85, 3) := by decide +kernel
theorem dX4_end_76 : decode cX4_end 76 = .ok (.ifCond .ne 21, 3) := by decide +kernel
theorem dX4_end_79 : decode cX4_end 79 = .ok (.aload_n 0, 1) := by decide +kernel
theorem dX4_end_80 : decode cX4_end 80 = .ok (.iload_n 1, 1) := by decide +kernel
theorem dX4_end_81 : decode cX4_end 81 = .ok (.putfield 112, 3) := by decide +kernel
theorem dX4_end_84 : decode cX4_end 84 = .ok (.aload_n 0, 1) := by decide +kernel
theorem dX4_end_85 : decode cX4_end 85 = .ok (.dup, 1) := by decide +kernel
theorem dX4_end_86 : decode cX4_end 86 = .ok (.getfield 115, 3) := by decide +kernel
theorem dX4_end_89 : decode cX4_end 89 = .ok (.iconst 1, 1) := by decide +kernel
theorem dX4_end_90 : decode cX4_end 90 = .ok (.isub, 1) := by decide +kernel
theorem dX4_end_91 : decode cX4_end 91 = .ok (.putfield 115, 3) := by decide +kernel
theorem dX4_end_94 : decode cX4_end 94 = .ok (.bipush (-4), 2) := by decide +kernel
theorem dX4_end_96 : decode cX4_end 96 = .ok (.ireturn, 1) := by decide +kernel
theorem dX4_end_97 : decode cX4_end 97 = .ok (.iload_n 2, 1) := by decide +kernel
theorem dX4_end_98 : decode cX4_end 98 = .ok (.sipush 128, 3) := by decide +kernel
theorem dX4_end_101 : decode cX4_end 101 = .ok (.if_icmp .ge 7, 3) := by decide +kernel
theorem dX4_end_104 : decode cX4_end 104 = .ok (.iconst 1, 1) := by decide +kernel
theorem dX4_end_105 : decode cX4_end 105 = .ok (.goto 15, 3) := by decide +kernel
theorem dX4_end_108 : decode cX4_end 108 = .ok (.iload_n 2, 1) := by decide +kernel
theorem dX4_end_109 : decode cX4_end 109 = .ok (.sipush 256, 3) := by decide +kernel
theorem dX4_end_112 : decode cX4_end 112 = .ok (.if_icmp .ge 7, 3) := by decide +kernel
theorem dX4_end_115 : decode cX4_end 115 = .ok (.iconst 2, 1) := by decide +kernel
theorem dX4_end_116 : decode cX4_end 116 = .ok (.goto 4, 3) := by decide +kernel
theorem dX4_end_119 : decode cX4_end 119 = .ok (.iconst 3, 1) := by decide +kernel
theorem dX4_end_120 : decode cX4_end 120 = .ok (.istore_n 3, 1) := by decide +kernel
theorem dX4_end_121 : decode cX4_end 121 = .ok (.aload_n 0, 1) := by decide +kernel
theorem dX4_end_122 : decode cX4_end 122 = .ok (.getfield 112, 3) := by decide +kernel
theorem dX4_end_125 : decode cX4_end 125 = .ok (.iload_n 3, 1) := by decide +kernel
theorem dX4_end_126 : decode cX4_end 126 = .ok (.iadd, 1) := by decide +kernel
theorem dX4_end_127 : decode cX4_end 127 = .ok (.sipush 300, 3) := by decide +kernel
theorem dX4_end_130 : decode cX4_end 130 = .ok (.if_icmp .le 6, 3) := by decide +kernel
theorem dX4_end_133 : decode cX4_end 133 = .ok (.bipush (-3), 2) := by decide +kernel
theorem dX4_end_135 : decode cX4_end 135 = .ok (.ireturn, 1) := by decide +kernel
theorem dX4_end_136 : decode cX4_end 136 = .ok (.iload_n 2, 1) := by decide +kernel
theorem dX4_end_137 : decode cX4_end 137 = .ok (.iconst 1, 1) := by decide +kernel
theorem dX4_end_138 : decode cX4_end 138 = .ok (.isub, 1) := by decide +kernel
theorem dX4_end_139 : decode cX4_end 139 = .ok (.istore 4, 2) := by decide +kernel
theorem dX4_end_141 : decode cX4_end 141 = .ok (.iload 4, 2) := by decide +kernel
theorem dX4_end_143 : decode cX4_end 143 = .ok (.ifCond .lt 29, 3) := by decide +kernel
theorem dX4_end_146 : decode cX4_end 146 = .ok (.aload_n 0, 1) := by decide +kernel
theorem dX4_end_147 : decode cX4_end 147 = .ok (.getfield 35, 3) := by decide +kernel
theorem dX4_end_150 : decode cX4_end 150 = .ok (.iload_n 1, 1) := by decide +kernel
theorem dX4_end_151 : decode cX4_end 151 = .ok (.iconst 1, 1) := by decide +kernel
theorem dX4_end_152 : decode cX4_end 152 = .ok (.iadd, 1) := by decide +kernel
theorem dX4_end_153 : decode cX4_end 153 = .ok (.iload_n 3, 1) := by decide +kernel
theorem dX4_end_154 : decode cX4_end 154 = .ok (.iadd, 1) := by decide +kernel
theorem dX4_end_155 : decode cX4_end 155 = .ok (.iload 4, 2) := by decide +kernel
theorem dX4_end_157 : decode cX4_end 157 = .ok (.iadd, 1) := by decide +kernel
theorem dX4_end_158 : decode cX4_end 158 = .ok (.aload_n 0, 1) := by decide +kernel
theorem dX4_end_159 : decode cX4_end 159 = .ok (.getfield 32, 3) := by decide +kernel
theorem dX4_end_162 : decode cX4_end 162 = .ok (.iload 4, 2) := by decide +kernel
theorem dX4_end_164 : decode cX4_end 164 = .ok (.iaload, 1) := by decide +kernel
theorem dX4_end_165 : decode cX4_end 165 = .ok (.iastore, 1) := by decide +kernel
theorem dX4_end_166 : decode cX4_end 166 = .ok (.iinc 4 (-1), 3) := by decide +kernel
theorem dX4_end_169 : decode cX4_end 169 = .ok (.goto (-28), 3) := by decide +kernel
theorem dX4_end_172 : decode cX4_end 172 = .ok (.aload_n 0, 1) := by decide +kernel
theorem dX4_end_173 : decode cX4_end 173 = .ok (.getfield 35, 3) := by decide +kernel
theorem dX4_end_176 : decode cX4_end 176 = .ok (.iload_n 1, 1) := by decide +kernel
theorem dX4_end_177 : decode cX4_end 177 = .ok (.iconst 1, 1) := by decide +kernel
theorem dX4_end_178 : decode cX4_end 178 = .ok (.iadd, 1) := by decide +kernel
theorem dX4_end_179 : decode cX4_end 179 = .ok (.iload_n 3, 1) := by decide +kernel
theorem dX4_end_180 : decode cX4_end 180 = .ok (.iconst 1, 1) := by decide +kernel
theorem dX4_end_181 : decode cX4_end 181 = .ok (.if_icmp .ne 7, 3) := by decide +kernel
theorem dX4_end_184 : decode cX4_end 184 = .ok (.iload_n 2, 1) := by decide +kernel
theorem dX4_end_185 : decode cX4_end 185 = .ok (.goto 7, 3) := by decide +kernel
theorem dX4_end_188 : decode cX4_end 188 = .ok (.bipush 127, 2) := by decide +kernel
theorem dX4_end_190 : decode cX4_end 190 = .ok (.iload_n 3, 1) := by decide +kernel
theorem dX4_end_191 : decode cX4_end 191 = .ok (.iadd, 1) := by decide +kernel
theorem dX4_end_192 : decode cX4_end 192 = .ok (.iastore, 1) := by decide +kernel
theorem dX4_end_193 : decode cX4_end 193 = .ok (.iconst 1, 1) := by decide +kernel
theorem dX4_end_194 : decode cX4_end 194 = .ok (.istore 4, 2) := by decide +kernel
theorem dX4_end_196 : decode cX4_end 196 = .ok (.iload 4, 2) := by decide +kernel
theorem dX4_end_198 : decode cX4_end 198 = .ok (.iload_n 3, 1) := by decide +kernel
theorem dX4_end_199 : decode cX4_end 199 = .ok (.if_icmp .ge 35, 3) := by decide +kernel
theorem dX4_end_202 : decode cX4_end 202 = .ok (.aload_n 0, 1) := by decide +kernel
theorem dX4_end_203 : decode cX4_end 203 = .ok (.getfield 35, 3) := by decide +kernel
theorem dX4_end_206 : decode cX4_end 206 = .ok (.iload_n 1, 1) := by decide +kernel
theorem dX4_end_207 : decode cX4_end 207 = .ok (.iconst 1, 1) := by decide +kernel
theorem dX4_end_208 : decode cX4_end 208 = .ok (.iadd, 1) := by decide +kernel
theorem dX4_end_209 : decode cX4_end 209 = .ok (.iload 4, 2) := by decide +kernel
theorem dX4_end_211 : decode cX4_end 211 = .ok (.iadd, 1) := by decide +kernel
theorem dX4_end_212 : decode cX4_end 212 = .ok (.iload_n 2, 1) := by decide +kernel
theorem dX4_end_213 : decode cX4_end 213 = .ok (.bipush 8, 2) := by decide +kernel
theorem dX4_end_215 : decode cX4_end 215 = .ok (.iload_n 3, 1) := by decide +kernel
theorem dX4_end_216 : decode cX4_end 216 = .ok (.iconst 1, 1) := by decide +kernel
theorem dX4_end_217 : decode cX4_end 217 = .ok (.isub, 1) := by decide +kernel
theorem dX4_end_218 : decode cX4_end 218 = .ok (.iload 4, 2) := by decide +kernel
theorem dX4_end_220 : decode cX4_end 220 = .ok (.isub, 1) := by decide +kernel
theorem dX4_end_221 : decode cX4_end 221 = .ok (.imul, 1) := by decide +kernel
theorem dX4_end_222 : decode cX4_end 222 = .ok (.ishr, 1) := by decide +kernel
theorem dX4_end_223 : decode cX4_end 223 = .ok (.sipush 255, 3) := by decide +kernel
theorem dX4_end_226 : decode cX4_end 226 = .ok (.iand, 1) := by decide +kernel
theorem dX4_end_227 : decode cX4_end 227 = .ok (.iastore, 1) := by decide +kernel
theorem dX4_end_228 : decode cX4_end 228 = .ok (.iinc 4 1, 3) := by decide +kernel
theorem dX4_end_231 : decode cX4_end 231 = .ok (.goto (-35), 3) := by decide +kernel
theorem dX4_end_234 : decode cX4_end 234 = .ok (.aload_n 0, 1) := by decide +kernel
theorem dX4_end_235 : decode cX4_end 235 = .ok (.dup, 1) := by decide +kernel
theorem dX4_end_236 : decode cX4_end 236 = .ok (.getfield 112, 3) := by decide +kernel
theorem dX4_end_239 : decode cX4_end 239 = .ok (.iload_n 3, 1) := by decide +kernel
theorem dX4_end_240 : decode cX4_end 240 = .ok (.iadd, 1) := by decide +kernel
theorem dX4_end_241 : decode cX4_end 241 = .ok (.putfield 112, 3) := by decide +kernel
theorem dX4_end_244 : decode cX4_end 244 = .ok (.aload_n 0, 1) := by decide +kernel
theorem dX4_end_245 : decode cX4_end 245 = .ok (.dup, 1) := by decide +kernel
theorem dX4_end_246 : decode cX4_end 246 = .ok (.getfield 115, 3) := by decide +kernel
theorem dX4_end_249 : decode cX4_end 249 = .ok (.iconst 1, 1) := by decide +kernel
theorem dX4_end_250 : decode cX4_end 250 = .ok (.isub, 1) := by decide +kernel
theorem dX4_end_251 : decode cX4_end 251 = .ok (.putfield 115, 3) := by decide +kernel
theorem dX4_end_254 : decode cX4_end 254 = .ok (.aload_n 0, 1) := by decide +kernel
theorem dX4_end_255 : decode cX4_end 255 = .ok (.aload_n 0, 1) := by decide +kernel
theorem dX4_end_256 : decode cX4_end 256 = .ok (.getfield 115, 3) := by decide +kernel
theorem dX4_end_259 : decode cX4_end 259 = .ok (.ifCond .ne 7, 3) := by decide +kernel
theorem dX4_end_262 : decode cX4_end 262 = .ok (.iconst 1, 1) := by decide +kernel
theorem dX4_end_263 : decode cX4_end 263 = .ok (.goto 4, 3) := by decide +kernel
theorem dX4_end_266 : decode cX4_end 266 = .ok (.iconst 0, 1) := by decide +kernel
theorem dX4_end_267 : decode cX4_end 267 = .ok (.putfield 118, 3) := by decide +kernel
theorem dX4_end_270 : decode cX4_end 270 = .ok (.iconst 0, 1) := by decide +kernel
theorem dX4_end_271 : decode cX4_end 271 = .ok (.ireturn, 1) := by decide +kernel
theorem dX4_out_0 : decode cX4_out 0 = .ok (.aload_n 0, 1) := by decide +kernel
theorem dX4_out_1 : decode cX4_out 1 = .ok (.iconst 0, 1) := by decide +kernel
theorem dX4_out_2 : decode cX4_out 2 = .ok (.putfield 41, 3) := by decide +kernel
theorem dX4_out_5 : decode cX4_out 5 = .ok (.iload_n 1, 1) := by decide +kernel
theorem dX4_out_6 : decode cX4_out 6 = .ok (.ifCond .lt 20, 3) := by decide +kernel
theorem dX4_out_9 : decode cX4_out 9 = .ok (.iload_n 1, 1) := by decide +kernel
theorem dX4_out_10 : decode cX4_out 10 = .ok (.aload_n 0, 1) := by decide +kernel
theorem dX4_out_11 : decode cX4_out 11 = .ok (.getfield 112, 3) := by decide +kernel
theorem dX4_out_14 : decode cX4_out 14 = .ok (.if_icmp .ge 12, 3) := by decide +kernel
theorem dX4_out_17 : decode cX4_out 17 = .ok (.aload_n 0, 1) := by decide +kernel
theorem dX4_out_18 : decode cX4_out 18 = .ok (.getfield 35, 3) := by decide +kernel
theorem dX4_out_21 : decode cX4_out 21 = .ok (.iload_n 1, 1) := by decide +kernel
theorem dX4_out_22 : decode cX4_out 22 = .ok (.iaload, 1) := by decide +kernel
theorem dX4_out_23 : decode cX4_out 23 = .ok (.goto 4, 3) := by decide +kernel
theorem dX4_out_26 : decode cX4_out 26 = .ok (.iconst (-1), 1) := by decide +kernel
theorem dX4_out_27 : decode cX4_out 27 = .ok (.ireturn, 1) := by decide +kernel
theorem dX4_outSize_0 : decode cX4_outSize 0 = .ok (.aload_n 0, 1) := by decide +kernel
theorem dX4_outSize_1 : decode cX4_outSize 1 = .ok (.iconst 0, 1) := by decide +kernel
theorem dX4_outSize_2 : decode cX4_outSize 2 = .ok (.putfield 41, 3) := by decide +kernel
theorem dX4_outSize_5 : decode cX4_outSize 5 = .ok (.aload_n 0, 1) := by decide +kernel
theorem dX4_outSize_6 : decode cX4_outSize 6 = .ok (.getfield 112, 3) := by decide +kernel
theorem dX4_outSize_9 : decode cX4_outSize 9 = .ok (.ireturn, 1) := by decide +kernel
theorem dX4_depth_0 : decode cX4_depth 0 = .ok (.aload_n 0, 1) := by decide +kernel
theorem dX4_depth_1 : decode cX4_depth 1 = .ok (.iconst 0, 1) := by decide +kernel
theorem dX4_depth_2 : decode cX4_depth 2 = .ok (.putfield 41, 3) := by decide +kernel
theorem dX4_depth_5 : decode cX4_depth 5 = .ok (.aload_n 0, 1) := by decide +kernel
theorem dX4_depth_6 : decode cX4_depth 6 = .ok (.getfield 115, 3) := by decide +kernel
theorem dX4_depth_9 : decode cX4_depth 9 = .ok (.ireturn, 1) := by decide +kernel
theorem dJ9_min_f86c9_0 : decode cJ9_min_f86c9 0 = .ok (.lload_n 0, 1) := by decide +kernel
theorem dJ9_min_f86c9_1 : decode cJ9_min_f86c9 1 = .ok (.lload_n 2, 1) := by decide +kernel
theorem dJ9_min_f86c9_2 : decode cJ9_min_f86c9 2 = .ok (.lcmp, 1) := by decide +kernel
theorem dJ9_min_f86c9_3 : decode cJ9_min_f86c9 3 = .ok (.ifCond .gt 7, 3) := by decide +kernel
theorem dJ9_min_f86c9_6 : decode cJ9_min_f86c9 6 = .ok (.lload_n 0, 1) := by decide +kernel
theorem dJ9_min_f86c9_7 : decode cJ9_min_f86c9 7 = .ok (.goto 4, 3) := by decide +kernel
theorem dJ9_min_f86c9_10 : decode cJ9_min_f86c9 10 = .ok (.lload_n 2, 1) := by decide +kernel
theorem dJ9_min_f86c9_11 : decode cJ9_min_f86c9 11 = .ok (.lreturn, 1) := by decide +kernel
