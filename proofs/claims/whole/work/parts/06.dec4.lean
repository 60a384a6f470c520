theorem dX4_init_0 : decode cX4_init 0 = .ok (.aload_n 0, 1) := by decide +kernel
theorem dX4_init_1 : decode cX4_init 1 = .ok (.invokespecial 1, 3) := by decide +kernel
theorem dX4_init_4 : decode cX4_init 4 = .ok (.aload_n 0, 1) := by decide +kernel
theorem dX4_init_5 : decode cX4_init 5 = .ok (.sipush 300, 3) := by decide +kernel
theorem dX4_init_8 : decode cX4_init 8 = .ok (.newarray .int, 2) := by decide +kernel
theorem dX4_init_10 : decode cX4_init 10 = .ok (.putfield 7, 3) := by decide +kernel
theorem dX4_init_13 : decode cX4_init 13 = .ok (.aload_n 0, 1) := by decide +kernel
theorem dX4_init_14 : decode cX4_init 14 = .ok (.bipush 64, 2) := by decide +kernel
theorem dX4_init_16 : decode cX4_init 16 = .ok (.newarray .int, 2) := by decide +kernel
theorem dX4_init_18 : decode cX4_init 18 = .ok (.putfield 13, 3) := by decide +kernel
theorem dX4_init_21 : decode cX4_init 21 = .ok (.aload_n 0, 1) := by decide +kernel
theorem dX4_init_22 : decode cX4_init 22 = .ok (.bipush 64, 2) := by decide +kernel
theorem dX4_init_24 : decode cX4_init 24 = .ok (.newarray .int, 2) := by decide +kernel
theorem dX4_init_26 : decode cX4_init 26 = .ok (.putfield 16, 3) := by decide +kernel
theorem dX4_init_29 : decode cX4_init 29 = .ok (.aload_n 0, 1) := by decide +kernel
theorem dX4_init_30 : decode cX4_init 30 = .ok (.bipush 64, 2) := by decide +kernel
theorem dX4_init_32 : decode cX4_init 32 = .ok (.newarray .int, 2) := by decide +kernel
theorem dX4_init_34 : decode cX4_init 34 = .ok (.putfield 19, 3) := by decide +kernel
theorem dX4_init_37 : decode cX4_init 37 = .ok (.aload_n 0, 1) := by decide +kernel
theorem dX4_init_38 : decode cX4_init 38 = .ok (.bipush 64, 2) := by decide +kernel
theorem dX4_init_40 : decode cX4_init 40 = .ok (.newarray .int, 2) := by decide +kernel
theorem dX4_init_42 : decode cX4_init 42 = .ok (.putfield 22, 3) := by decide +kernel
theorem dX4_init_45 : decode cX4_init 45 = .ok (.aload_n 0, 1) := by decide +kernel
theorem dX4_init_46 : decode cX4_init 46 = .ok (.iconst (-1), 1) := by decide +kernel
theorem dX4_init_47 : decode cX4_init 47 = .ok (.putfield 25, 3) := by decide +kernel
theorem dX4_init_50 : decode cX4_init 50 = .ok (.aload_n 0, 1) := by decide +kernel
theorem dX4_init_51 : decode cX4_init 51 = .ok (.bipush 17, 2) := by decide +kernel
theorem dX4_init_53 : decode cX4_init 53 = .ok (.newarray .int, 2) := by decide +kernel
theorem dX4_init_55 : decode cX4_init 55 = .ok (.putfield 29, 3) := by decide +kernel
theorem dX4_init_58 : decode cX4_init 58 = .ok (.aload_n 0, 1) := by decide +kernel
theorem dX4_init_59 : decode cX4_init 59 = .ok (.sipush 300, 3) := by decide +kernel
theorem dX4_init_62 : decode cX4_init 62 = .ok (.newarray .int, 2) := by decide +kernel
theorem dX4_init_64 : decode cX4_init 64 = .ok (.putfield 32, 3) := by decide +kernel
theorem dX4_init_67 : decode cX4_init 67 = .ok (.aload_n 0, 1) := by decide +kernel
theorem dX4_init_68 : decode cX4_init 68 = .ok (.sipush 300, 3) := by decide +kernel
theorem dX4_init_71 : decode cX4_init 71 = .ok (.newarray .int, 2) := by decide +kernel
theorem dX4_init_73 : decode cX4_init 73 = .ok (.putfield 35, 3) := by decide +kernel
theorem dX4_init_76 : decode cX4_init 76 = .ok (.aload_n 0, 1) := by decide +kernel
theorem dX4_init_77 : decode cX4_init 77 = .ok (.bipush 16, 2) := by decide +kernel
theorem dX4_init_79 : decode cX4_init 79 = .ok (.newarray .int, 2) := by decide +kernel
theorem dX4_init_81 : decode cX4_init 81 = .ok (.putfield 38, 3) := by decide +kernel
theorem dX4_init_84 : decode cX4_init 84 = .ok (.return_, 1) := by decide +kernel
theorem dX4_isByte_0 : decode cX4_isByte 0 = .ok (.iload_n 0, 1) := by decide +kernel
theorem dX4_isByte_1 : decode cX4_isByte 1 = .ok (.ifCond .lt 14, 3) := by decide +kernel
theorem dX4_isByte_4 : decode cX4_isByte 4 = .ok (.iload_n 0, 1) := by decide +kernel
theorem dX4_isByte_5 : decode cX4_isByte 5 = .ok (.sipush 256, 3) := by decide +kernel
theorem dX4_isByte_8 : decode cX4_isByte 8 = .ok (.if_icmp .ge 7, 3) := by decide +kernel
theorem dX4_isByte_11 : decode cX4_isByte 11 = .ok (.iconst 1, 1) := by decide +kernel
theorem dX4_isByte_12 : decode cX4_isByte 12 = .ok (.goto 4, 3) := by decide +kernel
theorem dX4_isByte_15 : decode cX4_isByte 15 = .ok (.iconst 0, 1) := by decide +kernel
theorem dX4_isByte_16 : decode cX4_isByte 16 = .ok (.ireturn, 1) := by decide +kernel
theorem dX4_isTag_0 : decode cX4_isTag 0 = .ok (.iload_n 0, 1) := by decide +kernel
theorem dX4_isTag_1 : decode cX4_isTag 1 = .ok (.iconst 1, 1) := by decide +kernel
theorem dX4_isTag_2 : decode cX4_isTag 2 = .ok (.if_icmp .lt 9, 3) := by decide +kernel
theorem dX4_isTag_5 : decode cX4_isTag 5 = .ok (.iload_n 0, 1) := by decide +kernel
theorem dX4_isTag_6 : decode cX4_isTag 6 = .ok (.bipush 6, 2) := by decide +kernel
theorem dX4_isTag_8 : decode cX4_isTag 8 = .ok (.if_icmp .le 9, 3) := by decide +kernel
theorem dX4_isTag_11 : decode cX4_isTag 11 = .ok (.iload_n 0, 1) := by decide +kernel
theorem dX4_isTag_12 : decode cX4_isTag 12 = .ok (.bipush 48, 2) := by decide +kernel
theorem dX4_isTag_14 : decode cX4_isTag 14 = .ok (.if_icmp .ne 7, 3) := by decide +kernel
theorem dX4_isTag_17 : decode cX4_isTag 17 = .ok (.iconst 1, 1) := by decide +kernel
theorem dX4_isTag_18 : decode cX4_isTag 18 = .ok (.goto 4, 3) := by decide +kernel
theorem dX4_isTag_21 : decode cX4_isTag 21 = .ok (.iconst 0, 1) := by decide +kernel
theorem dX4_isTag_22 : decode cX4_isTag 22 = .ok (.ireturn, 1) := by decide +kernel
set_option maxRecDepth 20000 in
theorem ggX4_feed_X4_isByte : GoodIn wsX4_feed wsX4_isByte := goodIn_r _ [8] (by decide +kernel) (by decide +kernel)
set_option maxRecDepth 20000 in
theorem gX4_feed_X4_isByte : GoodIn wsX4_feed (va_wsS RX4 44 yX4_isByte wsX4_isByte) := goodIn_app (goodIn_of _ (by decide +kernel)) ggX4_feed_X4_isByte
theorem dX4_feed_0 : decode cX4_feed 0 = .ok (.aload_n 0, 1) := by decide +kernel
theorem dX4_feed_1 : decode cX4_feed 1 = .ok (.iconst 0, 1) := by decide +kernel
theorem dX4_feed_2 : decode cX4_feed 2 = .ok (.putfield 41, 3) := by decide +kernel
theorem dX4_feed_5 : decode cX4_feed 5 = .ok (.iload_n 1, 1) := by decide +kernel
theorem dX4_feed_6 : decode cX4_feed 6 = .ok (.invokestatic 44, 3) := by decide +kernel
theorem dX4_feed_9 : decode cX4_feed 9 = .ok (.ifCond .ne 5, 3) := by decide +kernel
theorem dX4_feed_12 : decode cX4_feed 12 = .ok (.iconst (-1), 1) := by decide +kernel
theorem dX4_feed_13 : decode cX4_feed 13 = .ok (.ireturn, 1) := by decide +kernel
theorem dX4_feed_14 : decode cX4_feed 14 = .ok (.aload_n 0, 1) := by decide +kernel
theorem dX4_feed_15 : decode cX4_feed 15 = .ok (.getfield 48, 3) := by decide +kernel
theorem dX4_feed_18 : decode cX4_feed 18 = .ok (.sipush 300, 3) := by decide +kernel
theorem dX4_feed_21 : decode cX4_feed 21 = .ok (.if_icmp .ne 6, 3) := by decide +kernel
theorem dX4_feed_24 : decode cX4_feed 24 = .ok (.bipush (-3), 2) := by decide +kernel
theorem dX4_feed_26 : decode cX4_feed 26 = .ok (.ireturn, 1) := by decide +kernel
theorem dX4_feed_27 : decode cX4_feed 27 = .ok (.aload_n 0, 1) := by decide +kernel
theorem dX4_feed_28 : decode cX4_feed 28 = .ok (.getfield 7, 3) := by decide +kernel
theorem dX4_feed_31 : decode cX4_feed 31 = .ok (.aload_n 0, 1) := by decide +kernel
theorem dX4_feed_32 : decode cX4_feed 32 = .ok (.getfield 48, 3) := by decide +kernel
theorem dX4_feed_35 : decode cX4_feed 35 = .ok (.iload_n 1, 1) := by decide +kernel
theorem dX4_feed_36 : decode cX4_feed 36 = .ok (.iastore, 1) := by decide +kernel
theorem dX4_feed_37 : decode cX4_feed 37 = .ok (.aload_n 0, 1) := by decide +kernel
theorem dX4_feed_38 : decode cX4_feed 38 = .ok (.dup, 1) := by decide +kernel
theorem dX4_feed_39 : decode cX4_feed 39 = .ok (.getfield 48, 3) := by decide +kernel
theorem dX4_feed_42 : decode cX4_feed 42 = .ok (.iconst 1, 1) := by decide +kernel
theorem dX4_feed_43 : decode cX4_feed 43 = .ok (.iadd, 1) := by decide +kernel
theorem dX4_feed_44 : decode cX4_feed 44 = .ok (.putfield 48, 3) := by decide +kernel
theorem dX4_feed_47 : decode cX4_feed 47 = .ok (.aload_n 0, 1) := by decide +kernel
theorem dX4_feed_48 : decode cX4_feed 48 = .ok (.iconst 0, 1) := by decide +kernel
theorem dX4_feed_49 : decode cX4_feed 49 = .ok (.putfield 51, 3) := by decide +kernel
theorem dX4_feed_52 : decode cX4_feed 52 = .ok (.iconst 0, 1) := by decide +kernel
theorem dX4_feed_53 : decode cX4_feed 53 = .ok (.ireturn, 1) := by decide +kernel
theorem dX4_wipe_0 : decode cX4_wipe 0 = .ok (.aload_n 0, 1) := by decide +kernel
theorem dX4_wipe_1 : decode cX4_wipe 1 = .ok (.iconst 0, 1) := by decide +kernel
theorem dX4_wipe_2 : decode cX4_wipe 2 = .ok (.putfield 41, 3) := by decide +kernel
theorem dX4_wipe_5 : decode cX4_wipe 5 = .ok (.aload_n 0, 1) := by decide +kernel
theorem dX4_wipe_6 : decode cX4_wipe 6 = .ok (.iconst 0, 1) := by decide +kernel
theorem dX4_wipe_7 : decode cX4_wipe 7 = .ok (.putfield 48, 3) := by decide +kernel
theorem dX4_wipe_10 : decode cX4_wipe 10 = .ok (.aload_n 0, 1) := by decide +kernel
theorem dX4_wipe_11 : decode cX4_wipe 11 = .ok (.iconst 0, 1) := by decide +kernel
theorem dX4_wipe_12 : decode cX4_wipe 12 = .ok (.putfield 51, 3) := by decide +kernel
theorem dX4_wipe_15 : decode cX4_wipe 15 = .ok (.return_, 1) := by decide +kernel
theorem dX4_isRight_0 : decode cX4_isRight 0 = .ok (.iload_n 1, 1) := by decide +kernel
theorem dX4_isRight_1 : decode cX4_isRight 1 = .ok (.iconst 1, 1) := by decide +kernel
theorem dX4_isRight_2 : decode cX4_isRight 2 = .ok (.if_icmp .ne 35, 3) := by decide +kernel
theorem dX4_isRight_5 : decode cX4_isRight 5 = .ok (.iload_n 2, 1) := by decide +kernel
theorem dX4_isRight_6 : decode cX4_isRight 6 = .ok (.iconst 1, 1) := by decide +kernel
theorem dX4_isRight_7 : decode cX4_isRight 7 = .ok (.if_icmp .ne 28, 3) := by decide +kernel
theorem dX4_isRight_10 : decode cX4_isRight 10 = .ok (.aload_n 0, 1) := by decide +kernel
theorem dX4_isRight_11 : decode cX4_isRight 11 = .ok (.getfield 32, 3) := by decide +kernel
theorem dX4_isRight_14 : decode cX4_isRight 14 = .ok (.iconst 0, 1) := by decide +kernel
theorem dX4_isRight_15 : decode cX4_isRight 15 = .ok (.iaload, 1) := by decide +kernel
theorem dX4_isRight_16 : decode cX4_isRight 16 = .ok (.ifCond .eq 15, 3) := by decide +kernel
theorem dX4_isRight_19 : decode cX4_isRight 19 = .ok (.aload_n 0, 1) := by decide +kernel
theorem dX4_isRight_20 : decode cX4_isRight 20 = .ok (.getfield 32, 3) := by decide +kernel
theorem dX4_isRight_23 : decode cX4_isRight 23 = .ok (.iconst 0, 1) := by decide +kernel
theorem dX4_isRight_24 : decode cX4_isRight 24 = .ok (.iaload, 1) := by decide +kernel
theorem dX4_isRight_25 : decode cX4_isRight 25 = .ok (.sipush 255, 3) := by decide +kernel
theorem dX4_isRight_28 : decode cX4_isRight 28 = .ok (.if_icmp .ne 7, 3) := by decide +kernel
theorem dX4_isRight_31 : decode cX4_isRight 31 = .ok (.iconst 1, 1) := by decide +kernel
theorem dX4_isRight_32 : decode cX4_isRight 32 = .ok (.goto 4, 3) := by decide +kernel
theorem dX4_isRight_35 : decode cX4_isRight 35 = .ok (.iconst 0, 1) := by decide +kernel
theorem dX4_isRight_36 : decode cX4_isRight 36 = .ok (.ireturn, 1) := by decide +kernel
theorem dX4_isRight_37 : decode cX4_isRight 37 = .ok (.iload_n 1, 1) := by decide +kernel
theorem dX4_isRight_38 : decode cX4_isRight 38 = .ok (.iconst 2, 1) := by decide +kernel
theorem dX4_isRight_39 : decode cX4_isRight 39 = .ok (.if_icmp .ne 72, 3) := by decide +kernel
theorem dX4_isRight_42 : decode cX4_isRight 42 = .ok (.iload_n 2, 1) := by decide +kernel
theorem dX4_isRight_43 : decode cX4_isRight 43 = .ok (.iconst 1, 1) := by decide +kernel
theorem dX4_isRight_44 : decode cX4_isRight 44 = .ok (.if_icmp .le 51, 3) := by decide +kernel
theorem dX4_isRight_47 : decode cX4_isRight 47 = .ok (.aload_n 0, 1) := by decide +kernel
theorem dX4_isRight_48 : decode cX4_isRight 48 = .ok (.getfield 32, 3) := by decide +kernel
theorem dX4_isRight_51 : decode cX4_isRight 51 = .ok (.iconst 0, 1) := by decide +kernel
theorem dX4_isRight_52 : decode cX4_isRight 52 = .ok (.iaload, 1) := by decide +kernel
theorem dX4_isRight_53 : decode cX4_isRight 53 = .ok (.ifCond .ne 15, 3) := by decide +kernel
theorem dX4_isRight_56 : decode cX4_isRight 56 = .ok (.aload_n 0, 1) := by decide +kernel
theorem dX4_isRight_57 : decode cX4_isRight 57 = .ok (.getfield 32, 3) := by decide +kernel
theorem dX4_isRight_60 : decode cX4_isRight 60 = .ok (.iconst 1, 1) := by decide +kernel
theorem dX4_isRight_61 : decode cX4_isRight 61 = .ok (.iaload, 1) := by decide +kernel
theorem dX4_isRight_62 : decode cX4_isRight 62 = .ok (.sipush 128, 3) := by decide +kernel
theorem dX4_isRight_65 : decode cX4_isRight 65 = .ok (.if_icmp .lt 26, 3) := by decide +kernel
theorem dX4_isRight_68 : decode cX4_isRight 68 = .ok (.aload_n 0, 1) := by decide +kernel
theorem dX4_isRight_69 : decode cX4_isRight 69 = .ok (.getfield 32, 3) := by decide +kernel
theorem dX4_isRight_72 : decode cX4_isRight 72 = .ok (.iconst 0, 1) := by decide +kernel
theorem dX4_isRight_73 : decode cX4_isRight 73 = .ok (.iaload, 1) := by decide +kernel
theorem dX4_isRight_74 : decode cX4_isRight 74 = .ok (.sipush 255, 3) := by decide +kernel
theorem dX4_isRight_77 : decode cX4_isRight 77 = .ok (.if_icmp .ne 18, 3) := by decide +kernel
theorem dX4_isRight_80 : decode cX4_isRight 80 = .ok (.aload_n 0, 1) := by decide +kernel
theorem dX4_isRight_81 : decode cX4_isRight 81 = .ok (.getfield 32, 3) := by decide +kernel
theorem dX4_isRight_84 : decode cX4_isRight 84 = .ok (.iconst 1, 1) := by decide +kernel
theorem dX4_isRight_85 : decode cX4_isRight 85 = .ok (.iaload, 1) := by decide +kernel
theorem dX4_isRight_86 : decode cX4_isRight 86 = .ok (.bipush 127, 2) := by decide +kernel
theorem dX4_isRight_88 : decode cX4_isRight 88 = .ok (.if_icmp .le 7, 3) := by decide +kernel
theorem dX4_isRight_91 : decode cX4_isRight 91 = .ok (.iconst 1, 1) := by decide +kernel
theorem dX4_isRight_92 : decode cX4_isRight 92 = .ok (.goto 4, 3) := by decide +kernel
theorem dX4_isRight_95 : decode cX4_isRight 95 = .ok (.iconst 0, 1) := by decide +kernel
theorem dX4_isRight_96 : decode cX4_isRight 96 = .ok (.istore_n 3, 1) := by decide +kernel
theorem dX4_isRight_97 : decode cX4_isRight 97 = .ok (.iload_n 2, 1) := by decide +kernel
theorem dX4_isRight_98 : decode cX4_isRight 98 = .ok (.ifCond .le 11, 3) := by decide +kernel
theorem dX4_isRight_101 : decode cX4_isRight 101 = .ok (.iload_n 3, 1) := by decide +kernel
theorem dX4_isRight_102 : decode cX4_isRight 102 = .ok (.ifCond .ne 7, 3) := by decide +kernel
theorem dX4_isRight_105 : decode cX4_isRight 105 = .ok (.iconst 1, 1) := by decide +kernel
theorem dX4_isRight_106 : decode cX4_isRight 106 = .ok (.goto 4, 3) := by decide +kernel
theorem dX4_isRight_109 : decode cX4_isRight 109 = .ok (.iconst 0, 1) := by decide +kernel
theorem dX4_isRight_110 : decode cX4_isRight 110 = .ok (.ireturn, 1) := by decide +kernel
theorem dX4_isRight_111 : decode cX4_isRight 111 = .ok (.iload_n 1, 1) := by decide +kernel
theorem dX4_isRight_112 : decode cX4_isRight 112 = .ok (.iconst 3, 1) := by decide +kernel
theorem dX4_isRight_113 : decode cX4_isRight 113 = .ok (.if_icmp .ne 65, 3) := by decide +kernel
theorem dX4_isRight_116 : decode cX4_isRight 116 = .ok (.iload_n 2, 1) := by decide +kernel
theorem dX4_isRight_117 : decode cX4_isRight 117 = .ok (.ifCond .eq 28, 3) := by decide +kernel
theorem dX4_isRight_120 : decode cX4_isRight 120 = .ok (.aload_n 0, 1) := by decide +kernel
theorem dX4_isRight_121 : decode cX4_isRight 121 = .ok (.getfield 32, 3) := by decide +kernel
theorem dX4_isRight_124 : decode cX4_isRight 124 = .ok (.iconst 0, 1) := by decide +kernel
theorem dX4_isRight_125 : decode cX4_isRight 125 = .ok (.iaload, 1) := by decide +kernel
theorem dX4_isRight_126 : decode cX4_isRight 126 = .ok (.bipush 7, 2) := by decide +kernel
theorem dX4_isRight_128 : decode cX4_isRight 128 = .ok (.if_icmp .gt 17, 3) := by decide +kernel
theorem dX4_isRight_131 : decode cX4_isRight 131 = .ok (.iload_n 2, 1) := by decide +kernel
theorem dX4_isRight_132 : decode cX4_isRight 132 = .ok (.iconst 1, 1) := by decide +kernel
theorem dX4_isRight_133 : decode cX4_isRight 133 = .ok (.if_icmp .ne 14, 3) := by decide +kernel
theorem dX4_isRight_136 : decode cX4_isRight 136 = .ok (.aload_n 0, 1) := by decide +kernel
theorem dX4_isRight_137 : decode cX4_isRight 137 = .ok (.getfield 32, 3) := by decide +kernel
theorem dX4_isRight_140 : decode cX4_isRight 140 = .ok (.iconst 0, 1) := by decide +kernel
theorem dX4_isRight_141 : decode cX4_isRight 141 = .ok (.iaload, 1) := by decide +kernel
theorem dX4_isRight_142 : decode cX4_isRight 142 = .ok (.ifCond .eq 5, 3) := by decide +kernel
theorem dX4_isRight_145 : decode cX4_isRight 145 = .ok (.iconst 0, 1) := by decide +kernel
theorem dX4_isRight_146 : decode cX4_isRight 146 = .ok (.ireturn, 1) := by decide +kernel
theorem dX4_isRight_147 : decode cX4_isRight 147 = .ok (.iload_n 2, 1) := by decide +kernel
theorem dX4_isRight_148 : decode cX4_isRight 148 = .ok (.iconst 1, 1) := by decide +kernel
theorem dX4_isRight_149 : decode cX4_isRight 149 = .ok (.if_icmp .eq 23, 3) := by decide +kernel
theorem dX4_isRight_152 : decode cX4_isRight 152 = .ok (.aload_n 0, 1) := by decide +kernel
theorem dX4_isRight_153 : decode cX4_isRight 153 = .ok (.getfield 32, 3) := by decide +kernel
theorem dX4_isRight_156 : decode cX4_isRight 156 = .ok (.iload_n 2, 1) := by decide +kernel
theorem dX4_isRight_157 : decode cX4_isRight 157 = .ok (.iconst 1, 1) := by decide +kernel
theorem dX4_isRight_158 : decode cX4_isRight 158 = .ok (.isub, 1) := by decide +kernel
theorem dX4_isRight_159 : decode cX4_isRight 159 = .ok (.iaload, 1) := by decide +kernel
theorem dX4_isRight_160 : decode cX4_isRight 160 = .ok (.iconst 1, 1) := by decide +kernel
theorem dX4_isRight_161 : decode cX4_isRight 161 = .ok (.aload_n 0, 1) := by decide +kernel
theorem dX4_isRight_162 : decode cX4_isRight 162 = .ok (.getfield 32, 3) := by decide +kernel
theorem dX4_isRight_165 : decode cX4_isRight 165 = .ok (.iconst 0, 1) := by decide +kernel
theorem dX4_isRight_166 : decode cX4_isRight 166 = .ok (.iaload, 1) := by decide +kernel
theorem dX4_isRight_167 : decode cX4_isRight 167 = .ok (.ishl, 1) := by decide +kernel
theorem dX4_isRight_168 : decode cX4_isRight 168 = .ok (.irem, 1) := by decide +kernel
theorem dX4_isRight_169 : decode cX4_isRight 169 = .ok (.ifCond .ne 7, 3) := by decide +kernel
theorem dX4_isRight_172 : decode cX4_isRight 172 = .ok (.iconst 1, 1) := by decide +kernel
theorem dX4_isRight_173 : decode cX4_isRight 173 = .ok (.goto 4, 3) := by decide +kernel
theorem dX4_isRight_176 : decode cX4_isRight 176 = .ok (.iconst 0, 1) := by decide +kernel
theorem dX4_isRight_177 : decode cX4_isRight 177 = .ok (.ireturn, 1) := by decide +kernel
theorem dX4_isRight_178 : decode cX4_isRight 178 = .ok (.iload_n 1, 1) := by decide +kernel
theorem dX4_isRight_179 : decode cX4_isRight 179 = .ok (.iconst 5, 1) := by decide +kernel
theorem dX4_isRight_180 : decode cX4_isRight 180 = .ok (.if_icmp .ne 13, 3) := by decide +kernel
theorem dX4_isRight_183 : decode cX4_isRight 183 = .ok (.iload_n 2, 1) := by decide +kernel
theorem dX4_isRight_184 : decode cX4_isRight 184 = .ok (.ifCond .ne 7, 3) := by decide +kernel
theorem dX4_isRight_187 : decode cX4_isRight 187 = .ok (.iconst 1, 1) := by decide +kernel
theorem dX4_isRight_188 : decode cX4_isRight 188 = .ok (.goto 4, 3) := by decide +kernel
theorem dX4_isRight_191 : decode cX4_isRight 191 = .ok (.iconst 0, 1) := by decide +kernel
theorem dX4_isRight_192 : decode cX4_isRight 192 = .ok (.ireturn, 1) := by decide +kernel
theorem dX4_isRight_193 : decode cX4_isRight 193 = .ok (.iload_n 1, 1) := by decide +kernel
theorem dX4_isRight_194 : decode cX4_isRight 194 = .ok (.bipush 6, 2) := by decide +kernel
theorem dX4_isRight_196 : decode cX4_isRight 196 = .ok (.if_icmp .eq 5, 3) := by decide +kernel
theorem dX4_isRight_199 : decode cX4_isRight 199 = .ok (.iconst 1, 1) := by decide +kernel
theorem dX4_isRight_200 : decode cX4_isRight 200 = .ok (.ireturn, 1) := by decide +kernel
theorem dX4_isRight_201 : decode cX4_isRight 201 = .ok (.iload_n 2, 1) := by decide +kernel
theorem dX4_isRight_202 : decode cX4_isRight 202 = .ok (.ifCond .le 7, 3) := by decide +kernel
theorem dX4_isRight_205 : decode cX4_isRight 205 = .ok (.iconst 1, 1) := by decide +kernel
theorem dX4_isRight_206 : decode cX4_isRight 206 = .ok (.goto 4, 3) := by decide +kernel
theorem dX4_isRight_209 : decode cX4_isRight 209 = .ok (.iconst 0, 1) := by decide +kernel
theorem dX4_isRight_210 : decode cX4_isRight 210 = .ok (.istore_n 3, 1) := by decide +kernel
theorem dX4_isRight_211 : decode cX4_isRight 211 = .ok (.iconst 0, 1) := by decide +kernel
theorem dX4_isRight_212 : decode cX4_isRight 212 = .ok (.istore 4, 2) := by decide +kernel
theorem dX4_isRight_214 : decode cX4_isRight 214 = .ok (.iload 4, 2) := by decide +kernel
theorem dX4_isRight_216 : decode cX4_isRight 216 = .ok (.iload_n 2, 1) := by decide +kernel
theorem dX4_isRight_217 : decode cX4_isRight 217 = .ok (.if_icmp .ge 85, 3) := by decide +kernel
theorem dX4_isRight_220 : decode cX4_isRight 220 = .ok (.iload 4, 2) := by decide +kernel
theorem dX4_isRight_222 : decode cX4_isRight 222 = .ok (.ifCond .eq 18, 3) := by decide +kernel
theorem dX4_isRight_225 : decode cX4_isRight 225 = .ok (.aload_n 0, 1) := by decide +kernel
theorem dX4_isRight_226 : decode cX4_isRight 226 = .ok (.getfield 32, 3) := by decide +kernel
theorem dX4_isRight_229 : decode cX4_isRight 229 = .ok (.iload 4, 2) := by decide +kernel
theorem dX4_isRight_231 : decode cX4_isRight 231 = .ok (.iconst 1, 1) := by decide +kernel
theorem dX4_isRight_232 : decode cX4_isRight 232 = .ok (.isub, 1) := by decide +kernel
theorem dX4_isRight_233 : decode cX4_isRight 233 = .ok (.iaload, 1) := by decide +kernel
theorem dX4_isRight_234 : decode cX4_isRight 234 = .ok (.sipush 128, 3) := by decide +kernel
theorem dX4_isRight_237 : decode cX4_isRight 237 = .ok (.if_icmp .ge 7, 3) := by decide +kernel
theorem dX4_isRight_240 : decode cX4_isRight 240 = .ok (.iconst 1, 1) := by decide +kernel
theorem dX4_isRight_241 : decode cX4_isRight 241 = .ok (.goto 4, 3) := by decide +kernel
theorem dX4_isRight_244 : decode cX4_isRight 244 = .ok (.iconst 0, 1) := by decide +kernel
theorem dX4_isRight_245 : decode cX4_isRight 245 = .ok (.istore 5, 2) := by decide +kernel
theorem dX4_isRight_247 : decode cX4_isRight 247 = .ok (.iload_n 3, 1) := by decide +kernel
theorem dX4_isRight_248 : decode cX4_isRight 248 = .ok (.ifCond .eq 46, 3) := by decide +kernel
theorem dX4_isRight_251 : decode cX4_isRight 251 = .ok (.iload 5, 2) := by decide +kernel
theorem dX4_isRight_253 : decode cX4_isRight 253 = .ok (.ifCond .eq 16, 3) := by decide +kernel
theorem dX4_isRight_256 : decode cX4_isRight 256 = .ok (.aload_n 0, 1) := by decide +kernel
theorem dX4_isRight_257 : decode cX4_isRight 257 = .ok (.getfield 32, 3) := by decide +kernel
theorem dX4_isRight_260 : decode cX4_isRight 260 = .ok (.iload 4, 2) := by decide +kernel
theorem dX4_isRight_262 : decode cX4_isRight 262 = .ok (.iaload, 1) := by decide +kernel
theorem dX4_isRight_263 : decode cX4_isRight 263 = .ok (.sipush 128, 3) := by decide +kernel
theorem dX4_isRight_266 : decode cX4_isRight 266 = .ok (.if_icmp .eq 28, 3) := by decide +kernel
theorem dX4_isRight_269 : decode cX4_isRight 269 = .ok (.iload 4, 2) := by decide +kernel
theorem dX4_isRight_271 : decode cX4_isRight 271 = .ok (.iload_n 2, 1) := by decide +kernel
theorem dX4_isRight_272 : decode cX4_isRight 272 = .ok (.iconst 1, 1) := by decide +kernel
theorem dX4_isRight_273 : decode cX4_isRight 273 = .ok (.isub, 1) := by decide +kernel
theorem dX4_isRight_274 : decode cX4_isRight 274 = .ok (.if_icmp .lt 16, 3) := by decide +kernel
theorem dX4_isRight_277 : decode cX4_isRight 277 = .ok (.aload_n 0, 1) := by decide +kernel
theorem dX4_isRight_278 : decode cX4_isRight 278 = .ok (.getfield 32, 3) := by decide +kernel
theorem dX4_isRight_281 : decode cX4_isRight 281 = .ok (.iload 4, 2) := by decide +kernel
theorem dX4_isRight_283 : decode cX4_isRight 283 = .ok (.iaload, 1) := by decide +kernel
theorem dX4_isRight_284 : decode cX4_isRight 284 = .ok (.sipush 128, 3) := by decide +kernel
theorem dX4_isRight_287 : decode cX4_isRight 287 = .ok (.if_icmp .ge 7, 3) := by decide +kernel
theorem dX4_isRight_290 : decode cX4_isRight 290 = .ok (.iconst 1, 1) := by decide +kernel
theorem dX4_isRight_291 : decode cX4_isRight 291 = .ok (.goto 4, 3) := by decide +kernel
theorem dX4_isRight_294 : decode cX4_isRight 294 = .ok (.iconst 0, 1) := by decide +kernel
theorem dX4_isRight_295 : decode cX4_isRight 295 = .ok (.istore_n 3, 1) := by decide +kernel
theorem dX4_isRight_296 : decode cX4_isRight 296 = .ok (.iinc 4 1, 3) := by decide +kernel
theorem dX4_isRight_299 : decode cX4_isRight 299 = .ok (.goto (-85), 3) := by decide +kernel
theorem dX4_isRight_302 : decode cX4_isRight 302 = .ok (.iload_n 3, 1) := by decide +kernel
theorem dX4_isRight_303 : decode cX4_isRight 303 = .ok (.ireturn, 1) := by decide +kernel
theorem dX4_fail_0 : decode cX4_fail 0 = .ok (.aload_n 0, 1) := by decide +kernel
theorem dX4_fail_1 : decode cX4_fail 1 = .ok (.iload_n 1, 1) := by decide +kernel
theorem dX4_fail_2 : decode cX4_fail 2 = .ok (.putfield 55, 3) := by decide +kernel
theorem dX4_fail_5 : decode cX4_fail 5 = .ok (.aload_n 0, 1) := by decide +kernel
theorem dX4_fail_6 : decode cX4_fail 6 = .ok (.iload_n 2, 1) := by decide +kernel
theorem dX4_fail_7 : decode cX4_fail 7 = .ok (.putfield 58, 3) := by decide +kernel
theorem dX4_fail_10 : decode cX4_fail 10 = .ok (.return_, 1) := by decide +kernel
set_option maxRecDepth 20000 in
theorem ggX4_isMissing_X4_fail : GoodIn wsX4_isMissing wsX4_fail := goodIn_r _ [10, 11, 12, 13, 14, 15, 16, 17, 18, 19, 20, 21, 22, 23, 24, 25, 26, 27, 28, 29, 30, 31, 32, 33, 34] (by decide +kernel) (by decide +kernel)
set_option maxRecDepth 20000 in
theorem gX4_isMissing_X4_fail : GoodIn wsX4_isMissing (wsV RX4 64 RX4 yX4_fail wsX4_fail) := goodIn_app (goodIn_of _ (by decide +kernel)) ggX4_isMissing_X4_fail
theorem dX4_isMissing_0 : decode cX4_isMissing 0 = .ok (.aload_n 0, 1) := by decide +kernel
theorem dX4_isMissing_1 : decode cX4_isMissing 1 = .ok (.getfield 61, 3) := by decide +kernel
theorem dX4_isMissing_4 : decode cX4_isMissing 4 = .ok (.ifCond .ne 10, 3) := by decide +kernel
theorem dX4_isMissing_7 : decode cX4_isMissing 7 = .ok (.aload_n 0, 1) := by decide +kernel
theorem dX4_isMissing_8 : decode cX4_isMissing 8 = .ok (.getfield 48, 3) := by decide +kernel
theorem dX4_isMissing_11 : decode cX4_isMissing 11 = .ok (.goto 36, 3) := by decide +kernel
theorem dX4_isMissing_14 : decode cX4_isMissing 14 = .ok (.aload_n 0, 1) := by decide +kernel
theorem dX4_isMissing_15 : decode cX4_isMissing 15 = .ok (.getfield 16, 3) := by decide +kernel
theorem dX4_isMissing_18 : decode cX4_isMissing 18 = .ok (.aload_n 0, 1) := by decide +kernel
theorem dX4_isMissing_19 : decode cX4_isMissing 19 = .ok (.getfield 29, 3) := by decide +kernel
theorem dX4_isMissing_22 : decode cX4_isMissing 22 = .ok (.aload_n 0, 1) := by decide +kernel
theorem dX4_isMissing_23 : decode cX4_isMissing 23 = .ok (.getfield 61, 3) := by decide +kernel
theorem dX4_isMissing_26 : decode cX4_isMissing 26 = .ok (.iconst 1, 1) := by decide +kernel
theorem dX4_isMissing_27 : decode cX4_isMissing 27 = .ok (.isub, 1) := by decide +kernel
theorem dX4_isMissing_28 : decode cX4_isMissing 28 = .ok (.iaload, 1) := by decide +kernel
theorem dX4_isMissing_29 : decode cX4_isMissing 29 = .ok (.iaload, 1) := by decide +kernel
theorem dX4_isMissing_30 : decode cX4_isMissing 30 = .ok (.aload_n 0, 1) := by decide +kernel
theorem dX4_isMissing_31 : decode cX4_isMissing 31 = .ok (.getfield 19, 3) := by decide +kernel
theorem dX4_isMissing_34 : decode cX4_isMissing 34 = .ok (.aload_n 0, 1) := by decide +kernel
theorem dX4_isMissing_35 : decode cX4_isMissing 35 = .ok (.getfield 29, 3) := by decide +kernel
theorem dX4_isMissing_38 : decode cX4_isMissing 38 = .ok (.aload_n 0, 1) := by decide +kernel
theorem dX4_isMissing_39 : decode cX4_isMissing 39 = .ok (.getfield 61, 3) := by decide +kernel
theorem dX4_isMissing_42 : decode cX4_isMissing 42 = .ok (.iconst 1, 1) := by decide +kernel
theorem dX4_isMissing_43 : decode cX4_isMissing 43 = .ok (.isub, 1) := by decide +kernel
theorem dX4_isMissing_44 : decode cX4_isMissing 44 = .ok (.iaload, 1) := by decide +kernel
theorem dX4_isMissing_45 : decode cX4_isMissing 45 = .ok (.iaload, 1) := by decide +kernel
theorem dX4_isMissing_46 : decode cX4_isMissing 46 = .ok (.iadd, 1) := by decide +kernel
theorem dX4_isMissing_47 : decode cX4_isMissing 47 = .ok (.istore_n 3, 1) := by decide +kernel
theorem dX4_isMissing_48 : decode cX4_isMissing 48 = .ok (.iload_n 1, 1) := by decide +kernel
theorem dX4_isMissing_49 : decode cX4_isMissing 49 = .ok (.iload_n 3, 1) := by decide +kernel
theorem dX4_isMissing_50 : decode cX4_isMissing 50 = .ok (.if_icmp .ge 5, 3) := by decide +kernel
theorem dX4_isMissing_53 : decode cX4_isMissing 53 = .ok (.iconst 0, 1) := by decide +kernel
theorem dX4_isMissing_54 : decode cX4_isMissing 54 = .ok (.ireturn, 1) := by decide +kernel
theorem dX4_isMissing_55 : decode cX4_isMissing 55 = .ok (.aload_n 0, 1) := by decide +kernel
theorem dX4_isMissing_56 : decode cX4_isMissing 56 = .ok (.getfield 61, 3) := by decide +kernel
theorem dX4_isMissing_59 : decode cX4_isMissing 59 = .ok (.ifCond .ne 15, 3) := by decide +kernel
theorem dX4_isMissing_62 : decode cX4_isMissing 62 = .ok (.aload_n 0, 1) := by decide +kernel
theorem dX4_isMissing_63 : decode cX4_isMissing 63 = .ok (.iconst (-1), 1) := by decide +kernel
theorem dX4_isMissing_64 : decode cX4_isMissing 64 = .ok (.aload_n 0, 1) := by decide +kernel
theorem dX4_isMissing_65 : decode cX4_isMissing 65 = .ok (.getfield 48, 3) := by decide +kernel
theorem dX4_isMissing_68 : decode cX4_isMissing 68 = .ok (.invokevirtual 64, 3) := by decide +kernel
theorem dX4_isMissing_71 : decode cX4_isMissing 71 = .ok (.goto 10, 3) := by decide +kernel
theorem dX4_isMissing_74 : decode cX4_isMissing 74 = .ok (.aload_n 0, 1) := by decide +kernel
theorem dX4_isMissing_75 : decode cX4_isMissing 75 = .ok (.bipush (-4), 2) := by decide +kernel
theorem dX4_isMissing_77 : decode cX4_isMissing 77 = .ok (.iload_n 2, 1) := by decide +kernel
theorem dX4_isMissing_78 : decode cX4_isMissing 78 = .ok (.invokevirtual 64, 3) := by decide +kernel
theorem dX4_isMissing_81 : decode cX4_isMissing 81 = .ok (.iconst 1, 1) := by decide +kernel
theorem dX4_isMissing_82 : decode cX4_isMissing 82 = .ok (.ireturn, 1) := by decide +kernel
set_option maxRecDepth 20000 in
theorem ggX4_length_X4_isMissing : GoodIn wsX4_length wsX4_isMissing := goodIn_r _ [7, 8, 9, 10, 11, 12, 13, 14, 15, 6, 16, 17, 18, 19, 20, 21, 22, 23, 24, 25, 26, 27, 28, 29, 30, 31, 32, 33, 34, 35, 36, 37, 38, 39, 40] (by decide +kernel) (by decide +kernel)
set_option maxRecDepth 20000 in
theorem gX4_length_X4_isMissing : GoodIn wsX4_length (wsV RX4 68 RX4 yX4_isMissing wsX4_isMissing) := goodIn_app (goodIn_of _ (by decide +kernel)) ggX4_length_X4_isMissing
set_option maxRecDepth 20000 in
theorem ggX4_length_X4_fail : GoodIn wsX4_length wsX4_fail := goodIn_r _ [16, 17, 18, 19, 20, 21, 22, 23, 24, 25, 26, 27, 28, 29, 30, 31, 32, 33, 34, 35, 36, 37, 38, 39, 40] (by decide +kernel) (by decide +kernel)
set_option maxRecDepth 20000 in
theorem gX4_length_X4_fail : GoodIn wsX4_length (wsV RX4 64 RX4 yX4_fail wsX4_fail) := goodIn_app (goodIn_of _ (by decide +kernel)) ggX4_length_X4_fail
theorem dX4_length_0 : decode cX4_length 0 = .ok (.iload_n 1, 1) := by decide +kernel
theorem dX4_length_1 : decode cX4_length 1 = .ok (.iconst 1, 1) := by decide +kernel
theorem dX4_length_2 : decode cX4_length 2 = .ok (.iadd, 1) := by decide +kernel
theorem dX4_length_3 : decode cX4_length 3 = .ok (.istore_n 2, 1) := by decide +kernel
theorem dX4_length_4 : decode cX4_length 4 = .ok (.aload_n 0, 1) := by decide +kernel
theorem dX4_length_5 : decode cX4_length 5 = .ok (.iload_n 2, 1) := by decide +kernel
theorem dX4_length_6 : decode cX4_length 6 = .ok (.iload_n 1, 1) := by decide +kernel
theorem dX4_length_7 : decode cX4_length 7 = .ok (.invokevirtual 68, 3) := by decide +kernel
theorem dX4_length_10 : decode cX4_length 10 = .ok (.ifCond .eq 5, 3) := by decide +kernel
theorem dX4_length_13 : decode cX4_length 13 = .ok (.iconst (-1), 1) := by decide +kernel
theorem dX4_length_14 : decode cX4_length 14 = .ok (.ireturn, 1) := by decide +kernel
theorem dX4_length_15 : decode cX4_length 15 = .ok (.aload_n 0, 1) := by decide +kernel
theorem dX4_length_16 : decode cX4_length 16 = .ok (.getfield 7, 3) := by decide +kernel
theorem dX4_length_19 : decode cX4_length 19 = .ok (.iload_n 2, 1) := by decide +kernel
theorem dX4_length_20 : decode cX4_length 20 = .ok (.iaload, 1) := by decide +kernel
theorem dX4_length_21 : decode cX4_length 21 = .ok (.istore_n 3, 1) := by decide +kernel
theorem dX4_length_22 : decode cX4_length 22 = .ok (.iload_n 3, 1) := by decide +kernel
theorem dX4_length_23 : decode cX4_length 23 = .ok (.sipush 128, 3) := by decide +kernel
theorem dX4_length_26 : decode cX4_length 26 = .ok (.if_icmp .ge 12, 3) := by decide +kernel
theorem dX4_length_29 : decode cX4_length 29 = .ok (.aload_n 0, 1) := by decide +kernel
theorem dX4_length_30 : decode cX4_length 30 = .ok (.iload_n 2, 1) := by decide +kernel
theorem dX4_length_31 : decode cX4_length 31 = .ok (.iconst 1, 1) := by decide +kernel
theorem dX4_length_32 : decode cX4_length 32 = .ok (.iadd, 1) := by decide +kernel
theorem dX4_length_33 : decode cX4_length 33 = .ok (.putfield 72, 3) := by decide +kernel
theorem dX4_length_36 : decode cX4_length 36 = .ok (.iload_n 3, 1) := by decide +kernel
theorem dX4_length_37 : decode cX4_length 37 = .ok (.ireturn, 1) := by decide +kernel
theorem dX4_length_38 : decode cX4_length 38 = .ok (.iload_n 3, 1) := by decide +kernel
theorem dX4_length_39 : decode cX4_length 39 = .ok (.sipush 129, 3) := by decide +kernel
theorem dX4_length_42 : decode cX4_length 42 = .ok (.if_icmp .eq 19, 3) := by decide +kernel
theorem dX4_length_45 : decode cX4_length 45 = .ok (.iload_n 3, 1) := by decide +kernel
theorem dX4_length_46 : decode cX4_length 46 = .ok (.sipush 130, 3) := by decide +kernel
theorem dX4_length_49 : decode cX4_length 49 = .ok (.if_icmp .eq 12, 3) := by decide +kernel
theorem dX4_length_52 : decode cX4_length 52 = .ok (.aload_n 0, 1) := by decide +kernel
theorem dX4_length_53 : decode cX4_length 53 = .ok (.bipush (-3), 2) := by decide +kernel
theorem dX4_length_55 : decode cX4_length 55 = .ok (.iload_n 2, 1) := by decide +kernel
theorem dX4_length_56 : decode cX4_length 56 = .ok (.invokevirtual 64, 3) := by decide +kernel
theorem dX4_length_59 : decode cX4_length 59 = .ok (.iconst (-1), 1) := by decide +kernel
theorem dX4_length_60 : decode cX4_length 60 = .ok (.ireturn, 1) := by decide +kernel
theorem dX4_length_61 : decode cX4_length 61 = .ok (.iload_n 3, 1) := by decide +kernel
theorem dX4_length_62 : decode cX4_length 62 = .ok (.sipush 128, 3) := by decide +kernel
theorem dX4_length_65 : decode cX4_length 65 = .ok (.isub, 1) := by decide +kernel
theorem dX4_length_66 : decode cX4_length 66 = .ok (.istore 4, 2) := by decide +kernel
theorem dX4_length_68 : decode cX4_length 68 = .ok (.iconst 0, 1) := by decide +kernel
theorem dX4_length_69 : decode cX4_length 69 = .ok (.istore 5, 2) := by decide +kernel
theorem dX4_length_71 : decode cX4_length 71 = .ok (.iconst 1, 1) := by decide +kernel
theorem dX4_length_72 : decode cX4_length 72 = .ok (.istore 6, 2) := by decide +kernel
theorem dX4_length_74 : decode cX4_length 74 = .ok (.iload 6, 2) := by decide +kernel
theorem dX4_length_76 : decode cX4_length 76 = .ok (.iload 4, 2) := by decide +kernel
theorem dX4_length_78 : decode cX4_length 78 = .ok (.if_icmp .gt 41, 3) := by decide +kernel
theorem dX4_length_81 : decode cX4_length 81 = .ok (.aload_n 0, 1) := by decide +kernel
theorem dX4_length_82 : decode cX4_length 82 = .ok (.iload_n 2, 1) := by decide +kernel
theorem dX4_length_83 : decode cX4_length 83 = .ok (.iload 6, 2) := by decide +kernel
theorem dX4_length_85 : decode cX4_length 85 = .ok (.iadd, 1) := by decide +kernel
theorem dX4_length_86 : decode cX4_length 86 = .ok (.iload_n 1, 1) := by decide +kernel
theorem dX4_length_87 : decode cX4_length 87 = .ok (.invokevirtual 68, 3) := by decide +kernel
theorem dX4_length_90 : decode cX4_length 90 = .ok (.ifCond .eq 5, 3) := by decide +kernel
theorem dX4_length_93 : decode cX4_length 93 = .ok (.iconst (-1), 1) := by decide +kernel
theorem dX4_length_94 : decode cX4_length 94 = .ok (.ireturn, 1) := by decide +kernel
theorem dX4_length_95 : decode cX4_length 95 = .ok (.sipush 256, 3) := by decide +kernel
theorem dX4_length_98 : decode cX4_length 98 = .ok (.iload 5, 2) := by decide +kernel
theorem dX4_length_100 : decode cX4_length 100 = .ok (.imul, 1) := by decide +kernel
theorem dX4_length_101 : decode cX4_length 101 = .ok (.aload_n 0, 1) := by decide +kernel
theorem dX4_length_102 : decode cX4_length 102 = .ok (.getfield 7, 3) := by decide +kernel
theorem dX4_length_105 : decode cX4_length 105 = .ok (.iload_n 2, 1) := by decide +kernel
theorem dX4_length_106 : decode cX4_length 106 = .ok (.iload 6, 2) := by decide +kernel
theorem dX4_length_108 : decode cX4_length 108 = .ok (.iadd, 1) := by decide +kernel
theorem dX4_length_109 : decode cX4_length 109 = .ok (.iaload, 1) := by decide +kernel
theorem dX4_length_110 : decode cX4_length 110 = .ok (.iadd, 1) := by decide +kernel
theorem dX4_length_111 : decode cX4_length 111 = .ok (.istore 5, 2) := by decide +kernel
theorem dX4_length_113 : decode cX4_length 113 = .ok (.iinc 6 1, 3) := by decide +kernel
theorem dX4_length_116 : decode cX4_length 116 = .ok (.goto (-42), 3) := by decide +kernel
theorem dX4_length_119 : decode cX4_length 119 = .ok (.iload 5, 2) := by decide +kernel
theorem dX4_length_121 : decode cX4_length 121 = .ok (.iload 4, 2) := by decide +kernel
theorem dX4_length_123 : decode cX4_length 123 = .ok (.iconst 1, 1) := by decide +kernel
theorem dX4_length_124 : decode cX4_length 124 = .ok (.if_icmp .ne 9, 3) := by decide +kernel
theorem dX4_length_127 : decode cX4_length 127 = .ok (.sipush 128, 3) := by decide +kernel
theorem dX4_length_130 : decode cX4_length 130 = .ok (.goto 6, 3) := by decide +kernel
theorem dX4_length_133 : decode cX4_length 133 = .ok (.sipush 256, 3) := by decide +kernel
theorem dX4_length_136 : decode cX4_length 136 = .ok (.if_icmp .ge 12, 3) := by decide +kernel
theorem dX4_length_139 : decode cX4_length 139 = .ok (.aload_n 0, 1) := by decide +kernel
theorem dX4_length_140 : decode cX4_length 140 = .ok (.bipush (-3), 2) := by decide +kernel
theorem dX4_length_142 : decode cX4_length 142 = .ok (.iload_n 2, 1) := by decide +kernel
theorem dX4_length_143 : decode cX4_length 143 = .ok (.invokevirtual 64, 3) := by decide +kernel
theorem dX4_length_146 : decode cX4_length 146 = .ok (.iconst (-1), 1) := by decide +kernel
theorem dX4_length_147 : decode cX4_length 147 = .ok (.ireturn, 1) := by decide +kernel
theorem dX4_length_148 : decode cX4_length 148 = .ok (.aload_n 0, 1) := by decide +kernel
theorem dX4_length_149 : decode cX4_length 149 = .ok (.iload_n 2, 1) := by decide +kernel
theorem dX4_length_150 : decode cX4_length 150 = .ok (.iconst 1, 1) := by decide +kernel
theorem dX4_length_151 : decode cX4_length 151 = .ok (.iadd, 1) := by decide +kernel
theorem dX4_length_152 : decode cX4_length 152 = .ok (.iload 4, 2) := by decide +kernel
theorem dX4_length_154 : decode cX4_length 154 = .ok (.iadd, 1) := by decide +kernel
theorem dX4_length_155 : decode cX4_length 155 = .ok (.putfield 72, 3) := by decide +kernel
theorem dX4_length_158 : decode cX4_length 158 = .ok (.iload 5, 2) := by decide +kernel
theorem dX4_length_160 : decode cX4_length 160 = .ok (.ireturn, 1) := by decide +kernel
set_option maxRecDepth 20000 in
theorem ggX4_value_X4_isMissing : GoodIn wsX4_value wsX4_isMissing := goodIn_r _ [16, 4, 5, 6, 7, 8, 17, 18, 19, 15, 20, 21, 22, 34, 35, 36, 37, 38, 39, 40, 41, 42, 43, 44, 45, 46, 47, 48, 49, 50, 51, 52, 53, 54, 55] (by decide +kernel) (by decide +kernel)
set_option maxRecDepth 20000 in
theorem gX4_value_X4_isMissing : GoodIn wsX4_value (wsV RX4 68 RX4 yX4_isMissing wsX4_isMissing) := goodIn_app (goodIn_of _ (by decide +kernel)) ggX4_value_X4_isMissing
set_option maxRecDepth 20000 in
theorem ggX4_value_X4_isTag : GoodIn wsX4_value wsX4_isTag := goodIn_r _ [25] (by decide +kernel) (by decide +kernel)
set_option maxRecDepth 20000 in
theorem gX4_value_X4_isTag : GoodIn wsX4_value (va_wsS RX4 75 yX4_isTag wsX4_isTag) := goodIn_app (goodIn_of _ (by decide +kernel)) ggX4_value_X4_isTag
set_option maxRecDepth 20000 in
theorem ggX4_value_X4_fail : GoodIn wsX4_value wsX4_fail := goodIn_r _ [20, 21, 22, 34, 35, 36, 37, 38, 39, 40, 41, 42, 43, 44, 45, 46, 47, 48, 49, 50, 51, 52, 53, 54, 55] (by decide +kernel) (by decide +kernel)
set_option maxRecDepth 20000 in
theorem gX4_value_X4_fail : GoodIn wsX4_value (wsV RX4 64 RX4 yX4_fail wsX4_fail) := goodIn_app (goodIn_of _ (by decide +kernel)) ggX4_value_X4_fail
set_option maxRecDepth 20000 in
theorem ggX4_value_X4_length : GoodIn wsX4_value wsX4_length := goodIn_r _ [29, 2, 1, 12, 13, 14, 15, 16, 4, 5, 6, 7, 8, 17, 18, 19, 20, 21, 22, 34, 35, 36, 37, 38, 39, 40, 41, 42, 43, 44, 45, 46, 47, 48, 49, 50, 51, 52, 53, 54, 55] (by decide +kernel) (by decide +kernel)
set_option maxRecDepth 20000 in
theorem gX4_value_X4_length : GoodIn wsX4_value (wsV RX4 81 RX4 yX4_length wsX4_length) := goodIn_app (goodIn_of _ (by decide +kernel)) ggX4_value_X4_length
set_option maxRecDepth 20000 in
theorem ggX4_value_X4_isRight : GoodIn wsX4_value wsX4_isRight := goodIn_r _ [33, 11, 34, 35, 36, 37, 38, 39, 40, 41, 42, 43, 44, 45, 46, 47, 48, 49, 50, 51, 52, 53, 54, 55] (by decide +kernel) (by decide +kernel)
set_option maxRecDepth 20000 in
theorem gX4_value_X4_isRight : GoodIn wsX4_value (wsV RX4 85 RX4 yX4_isRight wsX4_isRight) := goodIn_app (goodIn_of _ (by decide +kernel)) ggX4_value_X4_isRight
theorem dX4_value_0 : decode cX4_value 0 = .ok (.aload_n 0, 1) := by decide +kernel
theorem dX4_value_1 : decode cX4_value 1 = .ok (.getfield 72, 3) := by decide +kernel
theorem dX4_value_4 : decode cX4_value 4 = .ok (.istore_n 1, 1) := by decide +kernel
theorem dX4_value_5 : decode cX4_value 5 = .ok (.aload_n 0, 1) := by decide +kernel
theorem dX4_value_6 : decode cX4_value 6 = .ok (.iload_n 1, 1) := by decide +kernel
theorem dX4_value_7 : decode cX4_value 7 = .ok (.iload_n 1, 1) := by decide +kernel
theorem dX4_value_8 : decode cX4_value 8 = .ok (.invokevirtual 68, 3) := by decide +kernel
theorem dX4_value_11 : decode cX4_value 11 = .ok (.ifCond .eq 4, 3) := by decide +kernel
theorem dX4_value_14 : decode cX4_value 14 = .ok (.return_, 1) := by decide +kernel
theorem dX4_value_15 : decode cX4_value 15 = .ok (.aload_n 0, 1) := by decide +kernel
theorem dX4_value_16 : decode cX4_value 16 = .ok (.getfield 7, 3) := by decide +kernel
theorem dX4_value_19 : decode cX4_value 19 = .ok (.iload_n 1, 1) := by decide +kernel
theorem dX4_value_20 : decode cX4_value 20 = .ok (.iaload, 1) := by decide +kernel
theorem dX4_value_21 : decode cX4_value 21 = .ok (.invokestatic 75, 3) := by decide +kernel
theorem dX4_value_24 : decode cX4_value 24 = .ok (.ifCond .ne 11, 3) := by decide +kernel
theorem dX4_value_27 : decode cX4_value 27 = .ok (.aload_n 0, 1) := by decide +kernel
theorem dX4_value_28 : decode cX4_value 28 = .ok (.bipush (-2), 2) := by decide +kernel
theorem dX4_value_30 : decode cX4_value 30 = .ok (.iload_n 1, 1) := by decide +kernel
theorem dX4_value_31 : decode cX4_value 31 = .ok (.invokevirtual 64, 3) := by decide +kernel
theorem dX4_value_34 : decode cX4_value 34 = .ok (.return_, 1) := by decide +kernel
theorem dX4_value_35 : decode cX4_value 35 = .ok (.aload_n 0, 1) := by decide +kernel
theorem dX4_value_36 : decode cX4_value 36 = .ok (.getfield 78, 3) := by decide +kernel
theorem dX4_value_39 : decode cX4_value 39 = .ok (.bipush 64, 2) := by decide +kernel
theorem dX4_value_41 : decode cX4_value 41 = .ok (.if_icmp .eq 12, 3) := by decide +kernel
theorem dX4_value_44 : decode cX4_value 44 = .ok (.aload_n 0, 1) := by decide +kernel
theorem dX4_value_45 : decode cX4_value 45 = .ok (.getfield 61, 3) := by decide +kernel
theorem dX4_value_48 : decode cX4_value 48 = .ok (.bipush 16, 2) := by decide +kernel
theorem dX4_value_50 : decode cX4_value 50 = .ok (.if_icmp .ne 11, 3) := by decide +kernel
theorem dX4_value_53 : decode cX4_value 53 = .ok (.aload_n 0, 1) := by decide +kernel
theorem dX4_value_54 : decode cX4_value 54 = .ok (.bipush (-7), 2) := by decide +kernel
theorem dX4_value_56 : decode cX4_value 56 = .ok (.iload_n 1, 1) := by decide +kernel
theorem dX4_value_57 : decode cX4_value 57 = .ok (.invokevirtual 64, 3) := by decide +kernel
theorem dX4_value_60 : decode cX4_value 60 = .ok (.return_, 1) := by decide +kernel
theorem dX4_value_61 : decode cX4_value 61 = .ok (.aload_n 0, 1) := by decide +kernel
theorem dX4_value_62 : decode cX4_value 62 = .ok (.iload_n 1, 1) := by decide +kernel
theorem dX4_value_63 : decode cX4_value 63 = .ok (.invokevirtual 81, 3) := by decide +kernel
theorem dX4_value_66 : decode cX4_value 66 = .ok (.istore_n 2, 1) := by decide +kernel
theorem dX4_value_67 : decode cX4_value 67 = .ok (.iload_n 2, 1) := by decide +kernel
theorem dX4_value_68 : decode cX4_value 68 = .ok (.iconst (-1), 1) := by decide +kernel
theorem dX4_value_69 : decode cX4_value 69 = .ok (.if_icmp .ne 4, 3) := by decide +kernel
theorem dX4_value_72 : decode cX4_value 72 = .ok (.return_, 1) := by decide +kernel
theorem dX4_value_73 : decode cX4_value 73 = .ok (.aload_n 0, 1) := by decide +kernel
theorem dX4_value_74 : decode cX4_value 74 = .ok (.getfield 61, 3) := by decide +kernel
theorem dX4_value_77 : decode cX4_value 77 = .ok (.ifCond .ne 10, 3) := by decide +kernel
theorem dX4_value_80 : decode cX4_value 80 = .ok (.aload_n 0, 1) := by decide +kernel
theorem dX4_value_81 : decode cX4_value 81 = .ok (.getfield 48, 3) := by decide +kernel
theorem dX4_value_84 : decode cX4_value 84 = .ok (.goto 36, 3) := by decide +kernel
theorem dX4_value_87 : decode cX4_value 87 = .ok (.aload_n 0, 1) := by decide +kernel
theorem dX4_value_88 : decode cX4_value 88 = .ok (.getfield 16, 3) := by decide +kernel
theorem dX4_value_91 : decode cX4_value 91 = .ok (.aload_n 0, 1) := by decide +kernel
theorem dX4_value_92 : decode cX4_value 92 = .ok (.getfield 29, 3) := by decide +kernel
theorem dX4_value_95 : decode cX4_value 95 = .ok (.aload_n 0, 1) := by decide +kernel
theorem dX4_value_96 : decode cX4_value 96 = .ok (.getfield 61, 3) := by decide +kernel
theorem dX4_value_99 : decode cX4_value 99 = .ok (.iconst 1, 1) := by decide +kernel
theorem dX4_value_100 : decode cX4_value 100 = .ok (.isub, 1) := by decide +kernel
theorem dX4_value_101 : decode cX4_value 101 = .ok (.iaload, 1) := by decide +kernel
theorem dX4_value_102 : decode cX4_value 102 = .ok (.iaload, 1) := by decide +kernel
theorem dX4_value_103 : decode cX4_value 103 = .ok (.aload_n 0, 1) := by decide +kernel
theorem dX4_value_104 : decode cX4_value 104 = .ok (.getfield 19, 3) := by decide +kernel
theorem dX4_value_107 : decode cX4_value 107 = .ok (.aload_n 0, 1) := by decide +kernel
theorem dX4_value_108 : decode cX4_value 108 = .ok (.getfield 29, 3) := by decide +kernel
theorem dX4_value_111 : decode cX4_value 111 = .ok (.aload_n 0, 1) := by decide +kernel
theorem dX4_value_112 : decode cX4_value 112 = .ok (.getfield 61, 3) := by decide +kernel
theorem dX4_value_115 : decode cX4_value 115 = .ok (.iconst 1, 1) := by decide +kernel
theorem dX4_value_116 : decode cX4_value 116 = .ok (.isub, 1) := by decide +kernel
theorem dX4_value_117 : decode cX4_value 117 = .ok (.iaload, 1) := by decide +kernel
theorem dX4_value_118 : decode cX4_value 118 = .ok (.iaload, 1) := by decide +kernel
theorem dX4_value_119 : decode cX4_value 119 = .ok (.iadd, 1) := by decide +kernel
theorem dX4_value_120 : decode cX4_value 120 = .ok (.istore_n 3, 1) := by decide +kernel
theorem dX4_value_121 : decode cX4_value 121 = .ok (.aload_n 0, 1) := by decide +kernel
theorem dX4_value_122 : decode cX4_value 122 = .ok (.getfield 72, 3) := by decide +kernel
theorem dX4_value_125 : decode cX4_value 125 = .ok (.iload_n 2, 1) := by decide +kernel
theorem dX4_value_126 : decode cX4_value 126 = .ok (.iadd, 1) := by decide +kernel
theorem dX4_value_127 : decode cX4_value 127 = .ok (.iload_n 3, 1) := by decide +kernel
theorem dX4_value_128 : decode cX4_value 128 = .ok (.if_icmp .le 11, 3) := by decide +kernel
theorem dX4_value_131 : decode cX4_value 131 = .ok (.aload_n 0, 1) := by decide +kernel
theorem dX4_value_132 : decode cX4_value 132 = .ok (.bipush (-4), 2) := by decide +kernel
theorem dX4_value_134 : decode cX4_value 134 = .ok (.iload_n 1, 1) := by decide +kernel
theorem dX4_value_135 : decode cX4_value 135 = .ok (.invokevirtual 64, 3) := by decide +kernel
theorem dX4_value_138 : decode cX4_value 138 = .ok (.return_, 1) := by decide +kernel
theorem dX4_value_139 : decode cX4_value 139 = .ok (.aload_n 0, 1) := by decide +kernel
theorem dX4_value_140 : decode cX4_value 140 = .ok (.getfield 13, 3) := by decide +kernel
theorem dX4_value_143 : decode cX4_value 143 = .ok (.aload_n 0, 1) := by decide +kernel
theorem dX4_value_144 : decode cX4_value 144 = .ok (.getfield 78, 3) := by decide +kernel
theorem dX4_value_147 : decode cX4_value 147 = .ok (.aload_n 0, 1) := by decide +kernel
theorem dX4_value_148 : decode cX4_value 148 = .ok (.getfield 7, 3) := by decide +kernel
theorem dX4_value_151 : decode cX4_value 151 = .ok (.iload_n 1, 1) := by decide +kernel
theorem dX4_value_152 : decode cX4_value 152 = .ok (.iaload, 1) := by decide +kernel
theorem dX4_value_153 : decode cX4_value 153 = .ok (.iastore, 1) := by decide +kernel
theorem dX4_value_154 : decode cX4_value 154 = .ok (.aload_n 0, 1) := by decide +kernel
theorem dX4_value_155 : decode cX4_value 155 = .ok (.getfield 16, 3) := by decide +kernel
theorem dX4_value_158 : decode cX4_value 158 = .ok (.aload_n 0, 1) := by decide +kernel
theorem dX4_value_159 : decode cX4_value 159 = .ok (.getfield 78, 3) := by decide +kernel
theorem dX4_value_162 : decode cX4_value 162 = .ok (.aload_n 0, 1) := by decide +kernel
theorem dX4_value_163 : decode cX4_value 163 = .ok (.getfield 72, 3) := by decide +kernel
theorem dX4_value_166 : decode cX4_value 166 = .ok (.iastore, 1) := by decide +kernel
theorem dX4_value_167 : decode cX4_value 167 = .ok (.aload_n 0, 1) := by decide +kernel
theorem dX4_value_168 : decode cX4_value 168 = .ok (.getfield 19, 3) := by decide +kernel
theorem dX4_value_171 : decode cX4_value 171 = .ok (.aload_n 0, 1) := by decide +kernel
theorem dX4_value_172 : decode cX4_value 172 = .ok (.getfield 78, 3) := by decide +kernel
theorem dX4_value_175 : decode cX4_value 175 = .ok (.iload_n 2, 1) := by decide +kernel
theorem dX4_value_176 : decode cX4_value 176 = .ok (.iastore, 1) := by decide +kernel
theorem dX4_value_177 : decode cX4_value 177 = .ok (.aload_n 0, 1) := by decide +kernel
theorem dX4_value_178 : decode cX4_value 178 = .ok (.getfield 22, 3) := by decide +kernel
theorem dX4_value_181 : decode cX4_value 181 = .ok (.aload_n 0, 1) := by decide +kernel
theorem dX4_value_182 : decode cX4_value 182 = .ok (.getfield 78, 3) := by decide +kernel
theorem dX4_value_185 : decode cX4_value 185 = .ok (.aload_n 0, 1) := by decide +kernel
theorem dX4_value_186 : decode cX4_value 186 = .ok (.getfield 61, 3) := by decide +kernel
theorem dX4_value_189 : decode cX4_value 189 = .ok (.ifCond .ne 7, 3) := by decide +kernel
theorem dX4_value_192 : decode cX4_value 192 = .ok (.iconst (-1), 1) := by decide +kernel
theorem dX4_value_193 : decode cX4_value 193 = .ok (.goto 14, 3) := by decide +kernel
theorem dX4_value_196 : decode cX4_value 196 = .ok (.aload_n 0, 1) := by decide +kernel
theorem dX4_value_197 : decode cX4_value 197 = .ok (.getfield 29, 3) := by decide +kernel
theorem dX4_value_200 : decode cX4_value 200 = .ok (.aload_n 0, 1) := by decide +kernel
theorem dX4_value_201 : decode cX4_value 201 = .ok (.getfield 61, 3) := by decide +kernel
theorem dX4_value_204 : decode cX4_value 204 = .ok (.iconst 1, 1) := by decide +kernel
theorem dX4_value_205 : decode cX4_value 205 = .ok (.isub, 1) := by decide +kernel
theorem dX4_value_206 : decode cX4_value 206 = .ok (.iaload, 1) := by decide +kernel
theorem dX4_value_207 : decode cX4_value 207 = .ok (.iastore, 1) := by decide +kernel
theorem dX4_value_208 : decode cX4_value 208 = .ok (.aload_n 0, 1) := by decide +kernel
theorem dX4_value_209 : decode cX4_value 209 = .ok (.dup, 1) := by decide +kernel
theorem dX4_value_210 : decode cX4_value 210 = .ok (.getfield 78, 3) := by decide +kernel
theorem dX4_value_213 : decode cX4_value 213 = .ok (.iconst 1, 1) := by decide +kernel
theorem dX4_value_214 : decode cX4_value 214 = .ok (.iadd, 1) := by decide +kernel
theorem dX4_value_215 : decode cX4_value 215 = .ok (.putfield 78, 3) := by decide +kernel
theorem dX4_value_218 : decode cX4_value 218 = .ok (.aload_n 0, 1) := by decide +kernel
theorem dX4_value_219 : decode cX4_value 219 = .ok (.getfield 7, 3) := by decide +kernel
theorem dX4_value_222 : decode cX4_value 222 = .ok (.iload_n 1, 1) := by decide +kernel
theorem dX4_value_223 : decode cX4_value 223 = .ok (.iaload, 1) := by decide +kernel
theorem dX4_value_224 : decode cX4_value 224 = .ok (.bipush 48, 2) := by decide +kernel
theorem dX4_value_226 : decode cX4_value 226 = .ok (.if_icmp .ne 29, 3) := by decide +kernel
theorem dX4_value_229 : decode cX4_value 229 = .ok (.aload_n 0, 1) := by decide +kernel
theorem dX4_value_230 : decode cX4_value 230 = .ok (.getfield 29, 3) := by decide +kernel
theorem dX4_value_233 : decode cX4_value 233 = .ok (.aload_n 0, 1) := by decide +kernel
theorem dX4_value_234 : decode cX4_value 234 = .ok (.getfield 61, 3) := by decide +kernel
theorem dX4_value_237 : decode cX4_value 237 = .ok (.aload_n 0, 1) := by decide +kernel
theorem dX4_value_238 : decode cX4_value 238 = .ok (.getfield 78, 3) := by decide +kernel
theorem dX4_value_241 : decode cX4_value 241 = .ok (.iconst 1, 1) := by decide +kernel
theorem dX4_value_242 : decode cX4_value 242 = .ok (.isub, 1) := by decide +kernel
theorem dX4_value_243 : decode cX4_value 243 = .ok (.iastore, 1) := by decide +kernel
theorem dX4_value_244 : decode cX4_value 244 = .ok (.aload_n 0, 1) := by decide +kernel
theorem dX4_value_245 : decode cX4_value 245 = .ok (.dup, 1) := by decide +kernel
theorem dX4_value_246 : decode cX4_value 246 = .ok (.getfield 61, 3) := by decide +kernel
theorem dX4_value_249 : decode cX4_value 249 = .ok (.iconst 1, 1) := by decide +kernel
theorem dX4_value_250 : decode cX4_value 250 = .ok (.iadd, 1) := by decide +kernel
theorem dX4_value_251 : decode cX4_value 251 = .ok (.putfield 61, 3) := by decide +kernel
theorem dX4_value_254 : decode cX4_value 254 = .ok (.return_, 1) := by decide +kernel
theorem dX4_value_255 : decode cX4_value 255 = .ok (.iconst 0, 1) := by decide +kernel
theorem dX4_value_256 : decode cX4_value 256 = .ok (.istore 4, 2) := by decide +kernel
theorem dX4_value_258 : decode cX4_value 258 = .ok (.iload 4, 2) := by decide +kernel
theorem dX4_value_260 : decode cX4_value 260 = .ok (.iload_n 2, 1) := by decide +kernel
theorem dX4_value_261 : decode cX4_value 261 = .ok (.if_icmp .ge 28, 3) := by decide +kernel
theorem dX4_value_264 : decode cX4_value 264 = .ok (.aload_n 0, 1) := by decide +kernel
theorem dX4_value_265 : decode cX4_value 265 = .ok (.getfield 32, 3) := by decide +kernel
theorem dX4_value_268 : decode cX4_value 268 = .ok (.iload 4, 2) := by decide +kernel
theorem dX4_value_270 : decode cX4_value 270 = .ok (.aload_n 0, 1) := by decide +kernel
theorem dX4_value_271 : decode cX4_value 271 = .ok (.getfield 7, 3) := by decide +kernel
theorem dX4_value_274 : decode cX4_value 274 = .ok (.aload_n 0, 1) := by decide +kernel
theorem dX4_value_275 : decode cX4_value 275 = .ok (.getfield 72, 3) := by decide +kernel
theorem dX4_value_278 : decode cX4_value 278 = .ok (.iload 4, 2) := by decide +kernel
theorem dX4_value_280 : decode cX4_value 280 = .ok (.iadd, 1) := by decide +kernel
theorem dX4_value_281 : decode cX4_value 281 = .ok (.iaload, 1) := by decide +kernel
theorem dX4_value_282 : decode cX4_value 282 = .ok (.iastore, 1) := by decide +kernel
theorem dX4_value_283 : decode cX4_value 283 = .ok (.iinc 4 1, 3) := by decide +kernel
theorem dX4_value_286 : decode cX4_value 286 = .ok (.goto (-28), 3) := by decide +kernel
theorem dX4_value_289 : decode cX4_value 289 = .ok (.aload_n 0, 1) := by decide +kernel
theorem dX4_value_290 : decode cX4_value 290 = .ok (.aload_n 0, 1) := by decide +kernel
theorem dX4_value_291 : decode cX4_value 291 = .ok (.getfield 7, 3) := by decide +kernel
theorem dX4_value_294 : decode cX4_value 294 = .ok (.iload_n 1, 1) := by decide +kernel
theorem dX4_value_295 : decode cX4_value 295 = .ok (.iaload, 1) := by decide +kernel
theorem dX4_value_296 : decode cX4_value 296 = .ok (.iload_n 2, 1) := by decide +kernel
theorem dX4_value_297 : decode cX4_value 297 = .ok (.invokevirtual 85, 3) := by decide +kernel
theorem dX4_value_300 : decode cX4_value 300 = .ok (.ifCond .ne 10, 3) := by decide +kernel
theorem dX4_value_303 : decode cX4_value 303 = .ok (.aload_n 0, 1) := by decide +kernel
theorem dX4_value_304 : decode cX4_value 304 = .ok (.bipush (-5), 2) := by decide +kernel
theorem dX4_value_306 : decode cX4_value 306 = .ok (.iload_n 1, 1) := by decide +kernel
theorem dX4_value_307 : decode cX4_value 307 = .ok (.invokevirtual 64, 3) := by decide +kernel
theorem dX4_value_310 : decode cX4_value 310 = .ok (.aload_n 0, 1) := by decide +kernel
theorem dX4_value_311 : decode cX4_value 311 = .ok (.dup, 1) := by decide +kernel
theorem dX4_value_312 : decode cX4_value 312 = .ok (.getfield 72, 3) := by decide +kernel
theorem dX4_value_315 : decode cX4_value 315 = .ok (.iload_n 2, 1) := by decide +kernel
theorem dX4_value_316 : decode cX4_value 316 = .ok (.iadd, 1) := by decide +kernel
theorem dX4_value_317 : decode cX4_value 317 = .ok (.putfield 72, 3) := by decide +kernel
theorem dX4_value_320 : decode cX4_value 320 = .ok (.return_, 1) := by decide +kernel
set_option maxRecDepth 20000 in
theorem ggX4_parse_X4_value : GoodIn wsX4_parse wsX4_value := goodIn_r _ [18, 2, 19, 4, 3, 11, 8, 9, 10, 20, 21, 22, 23, 24, 25, 17, 26, 27, 28, 29, 30, 5, 6, 31, 32, 33, 34, 35, 36, 37, 38, 39, 40, 41, 42, 43, 44, 45, 46, 47, 48, 49, 50, 51, 52, 53, 54, 55, 56, 57, 58, 59, 60, 61, 62, 63] (by decide +kernel) (by decide +kernel)
set_option maxRecDepth 20000 in
theorem gX4_parse_X4_value : GoodIn wsX4_parse (wsV RX4 88 RX4 yX4_value wsX4_value) := goodIn_app (goodIn_of _ (by decide +kernel)) ggX4_parse_X4_value
set_option maxRecDepth 20000 in
theorem ggX4_parse_X4_fail : GoodIn wsX4_parse wsX4_fail := goodIn_r _ [30, 5, 6, 42, 43, 44, 45, 46, 47, 48, 49, 50, 51, 52, 53, 54, 55, 56, 57, 58, 59, 60, 61, 62, 63] (by decide +kernel) (by decide +kernel)
set_option maxRecDepth 20000 in
theorem gX4_parse_X4_fail : GoodIn wsX4_parse (wsV RX4 64 RX4 yX4_fail wsX4_fail) := goodIn_app (goodIn_of _ (by decide +kernel)) ggX4_parse_X4_fail
theorem dX4_parse_0 : decode cX4_parse 0 = .ok (.aload_n 0, 1) := by decide +kernel
theorem dX4_parse_1 : decode cX4_parse 1 = .ok (.iconst 0, 1) := by decide +kernel
theorem dX4_parse_2 : decode cX4_parse 2 = .ok (.putfield 41, 3) := by decide +kernel
theorem dX4_parse_5 : decode cX4_parse 5 = .ok (.aload_n 0, 1) := by decide +kernel
theorem dX4_parse_6 : decode cX4_parse 6 = .ok (.iconst 0, 1) := by decide +kernel
theorem dX4_parse_7 : decode cX4_parse 7 = .ok (.putfield 72, 3) := by decide +kernel
theorem dX4_parse_10 : decode cX4_parse 10 = .ok (.aload_n 0, 1) := by decide +kernel
theorem dX4_parse_11 : decode cX4_parse 11 = .ok (.iconst 0, 1) := by decide +kernel
theorem dX4_parse_12 : decode cX4_parse 12 = .ok (.putfield 61, 3) := by decide +kernel
theorem dX4_parse_15 : decode cX4_parse 15 = .ok (.aload_n 0, 1) := by decide +kernel
theorem dX4_parse_16 : decode cX4_parse 16 = .ok (.iconst 0, 1) := by decide +kernel
theorem dX4_parse_17 : decode cX4_parse 17 = .ok (.putfield 78, 3) := by decide +kernel
theorem dX4_parse_20 : decode cX4_parse 20 = .ok (.aload_n 0, 1) := by decide +kernel
theorem dX4_parse_21 : decode cX4_parse 21 = .ok (.iconst 0, 1) := by decide +kernel
theorem dX4_parse_22 : decode cX4_parse 22 = .ok (.putfield 55, 3) := by decide +kernel
theorem dX4_parse_25 : decode cX4_parse 25 = .ok (.aload_n 0, 1) := by decide +kernel
theorem dX4_parse_26 : decode cX4_parse 26 = .ok (.iconst (-1), 1) := by decide +kernel
theorem dX4_parse_27 : decode cX4_parse 27 = .ok (.putfield 58, 3) := by decide +kernel
theorem dX4_parse_30 : decode cX4_parse 30 = .ok (.aload_n 0, 1) := by decide +kernel
theorem dX4_parse_31 : decode cX4_parse 31 = .ok (.iconst 0, 1) := by decide +kernel
theorem dX4_parse_32 : decode cX4_parse 32 = .ok (.putfield 51, 3) := by decide +kernel
theorem dX4_parse_35 : decode cX4_parse 35 = .ok (.aload_n 0, 1) := by decide +kernel
theorem dX4_parse_36 : decode cX4_parse 36 = .ok (.invokevirtual 88, 3) := by decide +kernel
theorem dX4_parse_39 : decode cX4_parse 39 = .ok (.iconst 1, 1) := by decide +kernel
theorem dX4_parse_40 : decode cX4_parse 40 = .ok (.istore_n 1, 1) := by decide +kernel
theorem dX4_parse_41 : decode cX4_parse 41 = .ok (.iload_n 1, 1) := by decide +kernel
theorem dX4_parse_42 : decode cX4_parse 42 = .ok (.ifCond .eq 94, 3) := by decide +kernel
theorem dX4_parse_45 : decode cX4_parse 45 = .ok (.aload_n 0, 1) := by decide +kernel
theorem dX4_parse_46 : decode cX4_parse 46 = .ok (.getfield 55, 3) := by decide +kernel
theorem dX4_parse_49 : decode cX4_parse 49 = .ok (.ifCond .ne 87, 3) := by decide +kernel
theorem dX4_parse_52 : decode cX4_parse 52 = .ok (.aload_n 0, 1) := by decide +kernel
theorem dX4_parse_53 : decode cX4_parse 53 = .ok (.getfield 61, 3) := by decide +kernel
theorem dX4_parse_56 : decode cX4_parse 56 = .ok (.ifCond .le 56, 3) := by decide +kernel
theorem dX4_parse_59 : decode cX4_parse 59 = .ok (.aload_n 0, 1) := by decide +kernel
theorem dX4_parse_60 : decode cX4_parse 60 = .ok (.getfield 72, 3) := by decide +kernel
theorem dX4_parse_63 : decode cX4_parse 63 = .ok (.aload_n 0, 1) := by decide +kernel
theorem dX4_parse_64 : decode cX4_parse 64 = .ok (.getfield 16, 3) := by decide +kernel
theorem dX4_parse_67 : decode cX4_parse 67 = .ok (.aload_n 0, 1) := by decide +kernel
theorem dX4_parse_68 : decode cX4_parse 68 = .ok (.getfield 29, 3) := by decide +kernel
theorem dX4_parse_71 : decode cX4_parse 71 = .ok (.aload_n 0, 1) := by decide +kernel
theorem dX4_parse_72 : decode cX4_parse 72 = .ok (.getfield 61, 3) := by decide +kernel
theorem dX4_parse_75 : decode cX4_parse 75 = .ok (.iconst 1, 1) := by decide +kernel
theorem dX4_parse_76 : decode cX4_parse 76 = .ok (.isub, 1) := by decide +kernel
theorem dX4_parse_77 : decode cX4_parse 77 = .ok (.iaload, 1) := by decide +kernel
theorem dX4_parse_78 : decode cX4_parse 78 = .ok (.iaload, 1) := by decide +kernel
theorem dX4_parse_79 : decode cX4_parse 79 = .ok (.aload_n 0, 1) := by decide +kernel
theorem dX4_parse_80 : decode cX4_parse 80 = .ok (.getfield 19, 3) := by decide +kernel
theorem dX4_parse_83 : decode cX4_parse 83 = .ok (.aload_n 0, 1) := by decide +kernel
theorem dX4_parse_84 : decode cX4_parse 84 = .ok (.getfield 29, 3) := by decide +kernel
theorem dX4_parse_87 : decode cX4_parse 87 = .ok (.aload_n 0, 1) := by decide +kernel
theorem dX4_parse_88 : decode cX4_parse 88 = .ok (.getfield 61, 3) := by decide +kernel
theorem dX4_parse_91 : decode cX4_parse 91 = .ok (.iconst 1, 1) := by decide +kernel
theorem dX4_parse_92 : decode cX4_parse 92 = .ok (.isub, 1) := by decide +kernel
theorem dX4_parse_93 : decode cX4_parse 93 = .ok (.iaload, 1) := by decide +kernel
theorem dX4_parse_94 : decode cX4_parse 94 = .ok (.iaload, 1) := by decide +kernel
theorem dX4_parse_95 : decode cX4_parse 95 = .ok (.iadd, 1) := by decide +kernel
theorem dX4_parse_96 : decode cX4_parse 96 = .ok (.if_icmp .ne 16, 3) := by decide +kernel
theorem dX4_parse_99 : decode cX4_parse 99 = .ok (.aload_n 0, 1) := by decide +kernel
theorem dX4_parse_100 : decode cX4_parse 100 = .ok (.dup, 1) := by decide +kernel
theorem dX4_parse_101 : decode cX4_parse 101 = .ok (.getfield 61, 3) := by decide +kernel
theorem dX4_parse_104 : decode cX4_parse 104 = .ok (.iconst 1, 1) := by decide +kernel
theorem dX4_parse_105 : decode cX4_parse 105 = .ok (.isub, 1) := by decide +kernel
theorem dX4_parse_106 : decode cX4_parse 106 = .ok (.putfield 61, 3) := by decide +kernel
theorem dX4_parse_109 : decode cX4_parse 109 = .ok (.goto (-57), 3) := by decide +kernel
theorem dX4_parse_112 : decode cX4_parse 112 = .ok (.aload_n 0, 1) := by decide +kernel
theorem dX4_parse_113 : decode cX4_parse 113 = .ok (.getfield 61, 3) := by decide +kernel
theorem dX4_parse_116 : decode cX4_parse 116 = .ok (.ifCond .le 7, 3) := by decide +kernel
theorem dX4_parse_119 : decode cX4_parse 119 = .ok (.iconst 1, 1) := by decide +kernel
theorem dX4_parse_120 : decode cX4_parse 120 = .ok (.goto 4, 3) := by decide +kernel
theorem dX4_parse_123 : decode cX4_parse 123 = .ok (.iconst 0, 1) := by decide +kernel
theorem dX4_parse_124 : decode cX4_parse 124 = .ok (.istore_n 1, 1) := by decide +kernel
theorem dX4_parse_125 : decode cX4_parse 125 = .ok (.iload_n 1, 1) := by decide +kernel
theorem dX4_parse_126 : decode cX4_parse 126 = .ok (.ifCond .eq (-85), 3) := by decide +kernel
theorem dX4_parse_129 : decode cX4_parse 129 = .ok (.aload_n 0, 1) := by decide +kernel
theorem dX4_parse_130 : decode cX4_parse 130 = .ok (.invokevirtual 88, 3) := by decide +kernel
theorem dX4_parse_133 : decode cX4_parse 133 = .ok (.goto (-92), 3) := by decide +kernel
theorem dX4_parse_136 : decode cX4_parse 136 = .ok (.aload_n 0, 1) := by decide +kernel
theorem dX4_parse_137 : decode cX4_parse 137 = .ok (.getfield 55, 3) := by decide +kernel
theorem dX4_parse_140 : decode cX4_parse 140 = .ok (.ifCond .ne 24, 3) := by decide +kernel
theorem dX4_parse_143 : decode cX4_parse 143 = .ok (.aload_n 0, 1) := by decide +kernel
theorem dX4_parse_144 : decode cX4_parse 144 = .ok (.getfield 72, 3) := by decide +kernel
theorem dX4_parse_147 : decode cX4_parse 147 = .ok (.aload_n 0, 1) := by decide +kernel
theorem dX4_parse_148 : decode cX4_parse 148 = .ok (.getfield 48, 3) := by decide +kernel
theorem dX4_parse_151 : decode cX4_parse 151 = .ok (.if_icmp .ge 13, 3) := by decide +kernel
theorem dX4_parse_154 : decode cX4_parse 154 = .ok (.aload_n 0, 1) := by decide +kernel
theorem dX4_parse_155 : decode cX4_parse 155 = .ok (.bipush (-6), 2) := by decide +kernel
theorem dX4_parse_157 : decode cX4_parse 157 = .ok (.aload_n 0, 1) := by decide +kernel
theorem dX4_parse_158 : decode cX4_parse 158 = .ok (.getfield 72, 3) := by decide +kernel
theorem dX4_parse_161 : decode cX4_parse 161 = .ok (.invokevirtual 64, 3) := by decide +kernel
theorem dX4_parse_164 : decode cX4_parse 164 = .ok (.aload_n 0, 1) := by decide +kernel
theorem dX4_parse_165 : decode cX4_parse 165 = .ok (.aload_n 0, 1) := by decide +kernel
theorem dX4_parse_166 : decode cX4_parse 166 = .ok (.getfield 58, 3) := by decide +kernel
theorem dX4_parse_169 : decode cX4_parse 169 = .ok (.putfield 25, 3) := by decide +kernel
theorem dX4_parse_172 : decode cX4_parse 172 = .ok (.aload_n 0, 1) := by decide +kernel
theorem dX4_parse_173 : decode cX4_parse 173 = .ok (.aload_n 0, 1) := by decide +kernel
theorem dX4_parse_174 : decode cX4_parse 174 = .ok (.getfield 55, 3) := by decide +kernel
theorem dX4_parse_177 : decode cX4_parse 177 = .ok (.ifCond .ne 7, 3) := by decide +kernel
theorem dX4_parse_180 : decode cX4_parse 180 = .ok (.iconst 1, 1) := by decide +kernel
theorem dX4_parse_181 : decode cX4_parse 181 = .ok (.goto 4, 3) := by decide +kernel
theorem dX4_parse_184 : decode cX4_parse 184 = .ok (.iconst 0, 1) := by decide +kernel
theorem dX4_parse_185 : decode cX4_parse 185 = .ok (.putfield 51, 3) := by decide +kernel
theorem dX4_parse_188 : decode cX4_parse 188 = .ok (.aload_n 0, 1) := by decide +kernel
theorem dX4_parse_189 : decode cX4_parse 189 = .ok (.aload_n 0, 1) := by decide +kernel
theorem dX4_parse_190 : decode cX4_parse 190 = .ok (.getfield 78, 3) := by decide +kernel
theorem dX4_parse_193 : decode cX4_parse 193 = .ok (.putfield 91, 3) := by decide +kernel
theorem dX4_parse_196 : decode cX4_parse 196 = .ok (.aload_n 0, 1) := by decide +kernel
theorem dX4_parse_197 : decode cX4_parse 197 = .ok (.getfield 55, 3) := by decide +kernel
theorem dX4_parse_200 : decode cX4_parse 200 = .ok (.ireturn, 1) := by decide +kernel
