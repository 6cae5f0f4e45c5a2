theorem dX5_init_0 : decode cX5_init 0 = .ok (.aload_n 0, 1) := by decide +kernel
theorem dX5_init_1 : decode cX5_init 1 = .ok (.invokespecial 1, 3) := by decide +kernel
theorem dX5_init_4 : decode cX5_init 4 = .ok (.aload_n 0, 1) := by decide +kernel
theorem dX5_init_5 : decode cX5_init 5 = .ok (.sipush 4096, 3) := by decide +kernel
theorem dX5_init_8 : decode cX5_init 8 = .ok (.newarray .long, 2) := by decide +kernel
theorem dX5_init_10 : decode cX5_init 10 = .ok (.putfield 7, 3) := by decide +kernel
theorem dX5_init_13 : decode cX5_init 13 = .ok (.aload_n 0, 1) := by decide +kernel
theorem dX5_init_14 : decode cX5_init 14 = .ok (.iconst 4, 1) := by decide +kernel
theorem dX5_init_15 : decode cX5_init 15 = .ok (.newarray .int, 2) := by decide +kernel
theorem dX5_init_17 : decode cX5_init 17 = .ok (.dup, 1) := by decide +kernel
theorem dX5_init_18 : decode cX5_init 18 = .ok (.iconst 0, 1) := by decide +kernel
theorem dX5_init_19 : decode cX5_init 19 = .ok (.iconst 0, 1) := by decide +kernel
theorem dX5_init_20 : decode cX5_init 20 = .ok (.iastore, 1) := by decide +kernel
theorem dX5_init_21 : decode cX5_init 21 = .ok (.dup, 1) := by decide +kernel
theorem dX5_init_22 : decode cX5_init 22 = .ok (.iconst 1, 1) := by decide +kernel
theorem dX5_init_23 : decode cX5_init 23 = .ok (.iconst 1, 1) := by decide +kernel
theorem dX5_init_24 : decode cX5_init 24 = .ok (.iastore, 1) := by decide +kernel
theorem dX5_init_25 : decode cX5_init 25 = .ok (.dup, 1) := by decide +kernel
theorem dX5_init_26 : decode cX5_init 26 = .ok (.iconst 2, 1) := by decide +kernel
theorem dX5_init_27 : decode cX5_init 27 = .ok (.iconst 2, 1) := by decide +kernel
theorem dX5_init_28 : decode cX5_init 28 = .ok (.iastore, 1) := by decide +kernel
theorem dX5_init_29 : decode cX5_init 29 = .ok (.dup, 1) := by decide +kernel
theorem dX5_init_30 : decode cX5_init 30 = .ok (.iconst 3, 1) := by decide +kernel
theorem dX5_init_31 : decode cX5_init 31 = .ok (.iconst 3, 1) := by decide +kernel
theorem dX5_init_32 : decode cX5_init 32 = .ok (.iastore, 1) := by decide +kernel
theorem dX5_init_33 : decode cX5_init 33 = .ok (.putfield 13, 3) := by decide +kernel
theorem dX5_init_36 : decode cX5_init 36 = .ok (.aload_n 0, 1) := by decide +kernel
theorem dX5_init_37 : decode cX5_init 37 = .ok (.sipush 256, 3) := by decide +kernel
theorem dX5_init_40 : decode cX5_init 40 = .ok (.newarray .int, 2) := by decide +kernel
theorem dX5_init_42 : decode cX5_init 42 = .ok (.putfield 17, 3) := by decide +kernel
theorem dX5_init_45 : decode cX5_init 45 = .ok (.aload_n 0, 1) := by decide +kernel
theorem dX5_init_46 : decode cX5_init 46 = .ok (.bipush 32, 2) := by decide +kernel
theorem dX5_init_48 : decode cX5_init 48 = .ok (.newarray .int, 2) := by decide +kernel
theorem dX5_init_50 : decode cX5_init 50 = .ok (.putfield 20, 3) := by decide +kernel
theorem dX5_init_53 : decode cX5_init 53 = .ok (.aload_n 0, 1) := by decide +kernel
theorem dX5_init_54 : decode cX5_init 54 = .ok (.bipush 32, 2) := by decide +kernel
theorem dX5_init_56 : decode cX5_init 56 = .ok (.newarray .int, 2) := by decide +kernel
theorem dX5_init_58 : decode cX5_init 58 = .ok (.putfield 23, 3) := by decide +kernel
theorem dX5_init_61 : decode cX5_init 61 = .ok (.aload_n 0, 1) := by decide +kernel
theorem dX5_init_62 : decode cX5_init 62 = .ok (.bipush 32, 2) := by decide +kernel
theorem dX5_init_64 : decode cX5_init 64 = .ok (.newarray .int, 2) := by decide +kernel
theorem dX5_init_66 : decode cX5_init 66 = .ok (.putfield 26, 3) := by decide +kernel
theorem dX5_init_69 : decode cX5_init 69 = .ok (.aload_n 0, 1) := by decide +kernel
theorem dX5_init_70 : decode cX5_init 70 = .ok (.bipush 32, 2) := by decide +kernel
theorem dX5_init_72 : decode cX5_init 72 = .ok (.newarray .int, 2) := by decide +kernel
theorem dX5_init_74 : decode cX5_init 74 = .ok (.putfield 29, 3) := by decide +kernel
theorem dX5_init_77 : decode cX5_init 77 = .ok (.aload_n 0, 1) := by decide +kernel
theorem dX5_init_78 : decode cX5_init 78 = .ok (.bipush 32, 2) := by decide +kernel
theorem dX5_init_80 : decode cX5_init 80 = .ok (.newarray .int, 2) := by decide +kernel
theorem dX5_init_82 : decode cX5_init 82 = .ok (.putfield 32, 3) := by decide +kernel
theorem dX5_init_85 : decode cX5_init 85 = .ok (.aload_n 0, 1) := by decide +kernel
theorem dX5_init_86 : decode cX5_init 86 = .ok (.bipush 32, 2) := by decide +kernel
theorem dX5_init_88 : decode cX5_init 88 = .ok (.newarray .int, 2) := by decide +kernel
theorem dX5_init_90 : decode cX5_init 90 = .ok (.putfield 35, 3) := by decide +kernel
theorem dX5_init_93 : decode cX5_init 93 = .ok (.aload_n 0, 1) := by decide +kernel
theorem dX5_init_94 : decode cX5_init 94 = .ok (.bipush 32, 2) := by decide +kernel
theorem dX5_init_96 : decode cX5_init 96 = .ok (.newarray .boolean, 2) := by decide +kernel
theorem dX5_init_98 : decode cX5_init 98 = .ok (.putfield 38, 3) := by decide +kernel
theorem dX5_init_101 : decode cX5_init 101 = .ok (.aload_n 0, 1) := by decide +kernel
theorem dX5_init_102 : decode cX5_init 102 = .ok (.iconst (-1), 1) := by decide +kernel
theorem dX5_init_103 : decode cX5_init 103 = .ok (.putfield 42, 3) := by decide +kernel
theorem dX5_init_106 : decode cX5_init 106 = .ok (.aload_n 0, 1) := by decide +kernel
theorem dX5_init_107 : decode cX5_init 107 = .ok (.iconst (-1), 1) := by decide +kernel
theorem dX5_init_108 : decode cX5_init 108 = .ok (.putfield 46, 3) := by decide +kernel
theorem dX5_init_111 : decode cX5_init 111 = .ok (.aload_n 0, 1) := by decide +kernel
theorem dX5_init_112 : decode cX5_init 112 = .ok (.iconst 4, 1) := by decide +kernel
theorem dX5_init_113 : decode cX5_init 113 = .ok (.newarray .int, 2) := by decide +kernel
theorem dX5_init_115 : decode cX5_init 115 = .ok (.putfield 49, 3) := by decide +kernel
theorem dX5_init_118 : decode cX5_init 118 = .ok (.aload_n 0, 1) := by decide +kernel
theorem dX5_init_119 : decode cX5_init 119 = .ok (.iconst 1, 1) := by decide +kernel
theorem dX5_init_120 : decode cX5_init 120 = .ok (.iload_n 1, 1) := by decide +kernel
theorem dX5_init_121 : decode cX5_init 121 = .ok (.iconst 1, 1) := by decide +kernel
theorem dX5_init_122 : decode cX5_init 122 = .ok (.isub, 1) := by decide +kernel
theorem dX5_init_123 : decode cX5_init 123 = .ok (.iconst 3, 1) := by decide +kernel
theorem dX5_init_124 : decode cX5_init 124 = .ok (.iand, 1) := by decide +kernel
theorem dX5_init_125 : decode cX5_init 125 = .ok (.iadd, 1) := by decide +kernel
theorem dX5_init_126 : decode cX5_init 126 = .ok (.putfield 52, 3) := by decide +kernel
theorem dX5_init_129 : decode cX5_init 129 = .ok (.aload_n 0, 1) := by decide +kernel
theorem dX5_init_130 : decode cX5_init 130 = .ok (.iconst 1, 1) := by decide +kernel
theorem dX5_init_131 : decode cX5_init 131 = .ok (.iload_n 2, 1) := by decide +kernel
theorem dX5_init_132 : decode cX5_init 132 = .ok (.iconst 1, 1) := by decide +kernel
theorem dX5_init_133 : decode cX5_init 133 = .ok (.isub, 1) := by decide +kernel
theorem dX5_init_134 : decode cX5_init 134 = .ok (.bipush 31, 2) := by decide +kernel
theorem dX5_init_136 : decode cX5_init 136 = .ok (.iand, 1) := by decide +kernel
theorem dX5_init_137 : decode cX5_init 137 = .ok (.iadd, 1) := by decide +kernel
theorem dX5_init_138 : decode cX5_init 138 = .ok (.putfield 55, 3) := by decide +kernel
theorem dX5_init_141 : decode cX5_init 141 = .ok (.iconst 0, 1) := by decide +kernel
theorem dX5_init_142 : decode cX5_init 142 = .ok (.istore_n 3, 1) := by decide +kernel
theorem dX5_init_143 : decode cX5_init 143 = .ok (.iload_n 3, 1) := by decide +kernel
theorem dX5_init_144 : decode cX5_init 144 = .ok (.sipush 256, 3) := by decide +kernel
theorem dX5_init_147 : decode cX5_init 147 = .ok (.if_icmp .ge 16, 3) := by decide +kernel
theorem dX5_init_150 : decode cX5_init 150 = .ok (.aload_n 0, 1) := by decide +kernel
theorem dX5_init_151 : decode cX5_init 151 = .ok (.getfield 17, 3) := by decide +kernel
theorem dX5_init_154 : decode cX5_init 154 = .ok (.iload_n 3, 1) := by decide +kernel
theorem dX5_init_155 : decode cX5_init 155 = .ok (.iconst (-1), 1) := by decide +kernel
theorem dX5_init_156 : decode cX5_init 156 = .ok (.iastore, 1) := by decide +kernel
theorem dX5_init_157 : decode cX5_init 157 = .ok (.iinc 3 1, 3) := by decide +kernel
theorem dX5_init_160 : decode cX5_init 160 = .ok (.goto (-17), 3) := by decide +kernel
theorem dX5_init_163 : decode cX5_init 163 = .ok (.return_, 1) := by decide +kernel
theorem dX5_thrown_0 : decode cX5_thrown 0 = .ok (.aload_n 0, 1) := by decide +kernel
theorem dX5_thrown_1 : decode cX5_thrown 1 = .ok (.getfield 58, 3) := by decide +kernel
theorem dX5_thrown_4 : decode cX5_thrown 4 = .ok (.ireturn, 1) := by decide +kernel
theorem dX5_throwing_0 : decode cX5_throwing 0 = .ok (.aload_n 0, 1) := by decide +kernel
theorem dX5_throwing_1 : decode cX5_throwing 1 = .ok (.iload_n 1, 1) := by decide +kernel
theorem dX5_throwing_2 : decode cX5_throwing 2 = .ok (.ifCond .eq 7, 3) := by decide +kernel
theorem dX5_throwing_5 : decode cX5_throwing 5 = .ok (.iconst 1, 1) := by decide +kernel
theorem dX5_throwing_6 : decode cX5_throwing 6 = .ok (.goto 12, 3) := by decide +kernel
theorem dX5_throwing_9 : decode cX5_throwing 9 = .ok (.iload_n 2, 1) := by decide +kernel
theorem dX5_throwing_10 : decode cX5_throwing 10 = .ok (.ifCond .eq 7, 3) := by decide +kernel
theorem dX5_throwing_13 : decode cX5_throwing 13 = .ok (.iconst 2, 1) := by decide +kernel
theorem dX5_throwing_14 : decode cX5_throwing 14 = .ok (.goto 4, 3) := by decide +kernel
theorem dX5_throwing_17 : decode cX5_throwing 17 = .ok (.iconst 0, 1) := by decide +kernel
theorem dX5_throwing_18 : decode cX5_throwing 18 = .ok (.putfield 58, 3) := by decide +kernel
theorem dX5_throwing_21 : decode cX5_throwing 21 = .ok (.aload_n 0, 1) := by decide +kernel
theorem dX5_throwing_22 : decode cX5_throwing 22 = .ok (.getfield 58, 3) := by decide +kernel
theorem dX5_throwing_25 : decode cX5_throwing 25 = .ok (.ifCond .le 7, 3) := by decide +kernel
theorem dX5_throwing_28 : decode cX5_throwing 28 = .ok (.iconst 1, 1) := by decide +kernel
theorem dX5_throwing_29 : decode cX5_throwing 29 = .ok (.goto 4, 3) := by decide +kernel
theorem dX5_throwing_32 : decode cX5_throwing 32 = .ok (.iconst 0, 1) := by decide +kernel
theorem dX5_throwing_33 : decode cX5_throwing 33 = .ok (.ireturn, 1) := by decide +kernel
theorem dX5_isOf_0 : decode cX5_isOf 0 = .ok (.iload_n 0, 1) := by decide +kernel
theorem dX5_isOf_1 : decode cX5_isOf 1 = .ok (.ifCond .lt 12, 3) := by decide +kernel
theorem dX5_isOf_4 : decode cX5_isOf 4 = .ok (.iload_n 0, 1) := by decide +kernel
theorem dX5_isOf_5 : decode cX5_isOf 5 = .ok (.iload_n 1, 1) := by decide +kernel
theorem dX5_isOf_6 : decode cX5_isOf 6 = .ok (.if_icmp .ge 7, 3) := by decide +kernel
theorem dX5_isOf_9 : decode cX5_isOf 9 = .ok (.iconst 1, 1) := by decide +kernel
theorem dX5_isOf_10 : decode cX5_isOf 10 = .ok (.goto 4, 3) := by decide +kernel
theorem dX5_isOf_13 : decode cX5_isOf 13 = .ok (.iconst 0, 1) := by decide +kernel
theorem dX5_isOf_14 : decode cX5_isOf 14 = .ok (.ireturn, 1) := by decide +kernel
theorem dX5_table_0 : decode cX5_table 0 = .ok (.aload_n 0, 1) := by decide +kernel
theorem dX5_table_1 : decode cX5_table 1 = .ok (.iload_n 1, 1) := by decide +kernel
theorem dX5_table_2 : decode cX5_table 2 = .ok (.sipush 4096, 3) := by decide +kernel
theorem dX5_table_5 : decode cX5_table 5 = .ok (.invokestatic 61, 3) := by decide +kernel
theorem dX5_table_8 : decode cX5_table 8 = .ok (.ifCond .ne 7, 3) := by decide +kernel
theorem dX5_table_11 : decode cX5_table 11 = .ok (.iconst 1, 1) := by decide +kernel
theorem dX5_table_12 : decode cX5_table 12 = .ok (.goto 4, 3) := by decide +kernel
theorem dX5_table_15 : decode cX5_table 15 = .ok (.iconst 0, 1) := by decide +kernel
theorem dX5_table_16 : decode cX5_table 16 = .ok (.iconst 0, 1) := by decide +kernel
theorem dX5_table_17 : decode cX5_table 17 = .ok (.invokevirtual 65, 3) := by decide +kernel
theorem dX5_table_20 : decode cX5_table 20 = .ok (.ifCond .eq 5, 3) := by decide +kernel
theorem dX5_table_23 : decode cX5_table 23 = .ok (.lconst 0, 1) := by decide +kernel
theorem dX5_table_24 : decode cX5_table 24 = .ok (.lreturn, 1) := by decide +kernel
theorem dX5_table_25 : decode cX5_table 25 = .ok (.aload_n 0, 1) := by decide +kernel
theorem dX5_table_26 : decode cX5_table 26 = .ok (.getfield 7, 3) := by decide +kernel
theorem dX5_table_29 : decode cX5_table 29 = .ok (.iload_n 1, 1) := by decide +kernel
theorem dX5_table_30 : decode cX5_table 30 = .ok (.laload, 1) := by decide +kernel
theorem dX5_table_31 : decode cX5_table 31 = .ok (.lstore 4, 2) := by decide +kernel
theorem dX5_table_33 : decode cX5_table 33 = .ok (.aload_n 0, 1) := by decide +kernel
theorem dX5_table_34 : decode cX5_table 34 = .ok (.getfield 7, 3) := by decide +kernel
theorem dX5_table_37 : decode cX5_table 37 = .ok (.iload_n 1, 1) := by decide +kernel
theorem dX5_table_38 : decode cX5_table 38 = .ok (.lload_n 2, 1) := by decide +kernel
theorem dX5_table_39 : decode cX5_table 39 = .ok (.lastore, 1) := by decide +kernel
theorem dX5_table_40 : decode cX5_table 40 = .ok (.lload 4, 2) := by decide +kernel
theorem dX5_table_42 : decode cX5_table 42 = .ok (.lreturn, 1) := by decide +kernel
theorem dX5_word_0 : decode cX5_word 0 = .ok (.aload_n 0, 1) := by decide +kernel
theorem dX5_word_1 : decode cX5_word 1 = .ok (.iload_n 1, 1) := by decide +kernel
theorem dX5_word_2 : decode cX5_word 2 = .ok (.sipush 4096, 3) := by decide +kernel
theorem dX5_word_5 : decode cX5_word 5 = .ok (.invokestatic 61, 3) := by decide +kernel
theorem dX5_word_8 : decode cX5_word 8 = .ok (.ifCond .ne 7, 3) := by decide +kernel
theorem dX5_word_11 : decode cX5_word 11 = .ok (.iconst 1, 1) := by decide +kernel
theorem dX5_word_12 : decode cX5_word 12 = .ok (.goto 4, 3) := by decide +kernel
theorem dX5_word_15 : decode cX5_word 15 = .ok (.iconst 0, 1) := by decide +kernel
theorem dX5_word_16 : decode cX5_word 16 = .ok (.iconst 0, 1) := by decide +kernel
theorem dX5_word_17 : decode cX5_word 17 = .ok (.invokevirtual 65, 3) := by decide +kernel
theorem dX5_word_20 : decode cX5_word 20 = .ok (.ifCond .eq 7, 3) := by decide +kernel
theorem dX5_word_23 : decode cX5_word 23 = .ok (.lconst 0, 1) := by decide +kernel
theorem dX5_word_24 : decode cX5_word 24 = .ok (.goto 9, 3) := by decide +kernel
theorem dX5_word_27 : decode cX5_word 27 = .ok (.aload_n 0, 1) := by decide +kernel
theorem dX5_word_28 : decode cX5_word 28 = .ok (.getfield 7, 3) := by decide +kernel
theorem dX5_word_31 : decode cX5_word 31 = .ok (.iload_n 1, 1) := by decide +kernel
theorem dX5_word_32 : decode cX5_word 32 = .ok (.laload, 1) := by decide +kernel
theorem dX5_word_33 : decode cX5_word 33 = .ok (.lreturn, 1) := by decide +kernel
theorem dX5_context_0 : decode cX5_context 0 = .ok (.aload_n 0, 1) := by decide +kernel
theorem dX5_context_1 : decode cX5_context 1 = .ok (.iload_n 1, 1) := by decide +kernel
theorem dX5_context_2 : decode cX5_context 2 = .ok (.iconst 4, 1) := by decide +kernel
theorem dX5_context_3 : decode cX5_context 3 = .ok (.invokestatic 61, 3) := by decide +kernel
theorem dX5_context_6 : decode cX5_context 6 = .ok (.ifCond .ne 7, 3) := by decide +kernel
theorem dX5_context_9 : decode cX5_context 9 = .ok (.iconst 1, 1) := by decide +kernel
theorem dX5_context_10 : decode cX5_context 10 = .ok (.goto 4, 3) := by decide +kernel
theorem dX5_context_13 : decode cX5_context 13 = .ok (.iconst 0, 1) := by decide +kernel
theorem dX5_context_14 : decode cX5_context 14 = .ok (.iconst 0, 1) := by decide +kernel
theorem dX5_context_15 : decode cX5_context 15 = .ok (.invokevirtual 65, 3) := by decide +kernel
theorem dX5_context_18 : decode cX5_context 18 = .ok (.ifCond .eq 5, 3) := by decide +kernel
theorem dX5_context_21 : decode cX5_context 21 = .ok (.iconst 0, 1) := by decide +kernel
theorem dX5_context_22 : decode cX5_context 22 = .ok (.ireturn, 1) := by decide +kernel
theorem dX5_context_23 : decode cX5_context 23 = .ok (.aload_n 0, 1) := by decide +kernel
theorem dX5_context_24 : decode cX5_context 24 = .ok (.getfield 69, 3) := by decide +kernel
theorem dX5_context_27 : decode cX5_context 27 = .ok (.istore_n 2, 1) := by decide +kernel
theorem dX5_context_28 : decode cX5_context 28 = .ok (.aload_n 0, 1) := by decide +kernel
theorem dX5_context_29 : decode cX5_context 29 = .ok (.iload_n 1, 1) := by decide +kernel
theorem dX5_context_30 : decode cX5_context 30 = .ok (.putfield 69, 3) := by decide +kernel
theorem dX5_context_33 : decode cX5_context 33 = .ok (.iload_n 2, 1) := by decide +kernel
theorem dX5_context_34 : decode cX5_context 34 = .ok (.ireturn, 1) := by decide +kernel
theorem dX5_root_0 : decode cX5_root 0 = .ok (.aload_n 0, 1) := by decide +kernel
theorem dX5_root_1 : decode cX5_root 1 = .ok (.iload_n 1, 1) := by decide +kernel
theorem dX5_root_2 : decode cX5_root 2 = .ok (.iconst 4, 1) := by decide +kernel
theorem dX5_root_3 : decode cX5_root 3 = .ok (.invokestatic 61, 3) := by decide +kernel
theorem dX5_root_6 : decode cX5_root 6 = .ok (.ifCond .ne 7, 3) := by decide +kernel
theorem dX5_root_9 : decode cX5_root 9 = .ok (.iconst 1, 1) := by decide +kernel
theorem dX5_root_10 : decode cX5_root 10 = .ok (.goto 4, 3) := by decide +kernel
theorem dX5_root_13 : decode cX5_root 13 = .ok (.iconst 0, 1) := by decide +kernel
theorem dX5_root_14 : decode cX5_root 14 = .ok (.iload_n 2, 1) := by decide +kernel
theorem dX5_root_15 : decode cX5_root 15 = .ok (.sipush 256, 3) := by decide +kernel
theorem dX5_root_18 : decode cX5_root 18 = .ok (.invokestatic 61, 3) := by decide +kernel
theorem dX5_root_21 : decode cX5_root 21 = .ok (.ifCond .ne 7, 3) := by decide +kernel
theorem dX5_root_24 : decode cX5_root 24 = .ok (.iconst 1, 1) := by decide +kernel
theorem dX5_root_25 : decode cX5_root 25 = .ok (.goto 4, 3) := by decide +kernel
theorem dX5_root_28 : decode cX5_root 28 = .ok (.iconst 0, 1) := by decide +kernel
theorem dX5_root_29 : decode cX5_root 29 = .ok (.invokevirtual 65, 3) := by decide +kernel
theorem dX5_root_32 : decode cX5_root 32 = .ok (.ifCond .eq 5, 3) := by decide +kernel
theorem dX5_root_35 : decode cX5_root 35 = .ok (.iconst 0, 1) := by decide +kernel
theorem dX5_root_36 : decode cX5_root 36 = .ok (.ireturn, 1) := by decide +kernel
theorem dX5_root_37 : decode cX5_root 37 = .ok (.aload_n 0, 1) := by decide +kernel
theorem dX5_root_38 : decode cX5_root 38 = .ok (.getfield 13, 3) := by decide +kernel
theorem dX5_root_41 : decode cX5_root 41 = .ok (.iload_n 1, 1) := by decide +kernel
theorem dX5_root_42 : decode cX5_root 42 = .ok (.iaload, 1) := by decide +kernel
theorem dX5_root_43 : decode cX5_root 43 = .ok (.istore_n 3, 1) := by decide +kernel
theorem dX5_root_44 : decode cX5_root 44 = .ok (.aload_n 0, 1) := by decide +kernel
theorem dX5_root_45 : decode cX5_root 45 = .ok (.getfield 13, 3) := by decide +kernel
theorem dX5_root_48 : decode cX5_root 48 = .ok (.iload_n 1, 1) := by decide +kernel
theorem dX5_root_49 : decode cX5_root 49 = .ok (.iload_n 2, 1) := by decide +kernel
theorem dX5_root_50 : decode cX5_root 50 = .ok (.iastore, 1) := by decide +kernel
theorem dX5_root_51 : decode cX5_root 51 = .ok (.iload_n 3, 1) := by decide +kernel
theorem dX5_root_52 : decode cX5_root 52 = .ok (.ireturn, 1) := by decide +kernel
theorem dX5_host_0 : decode cX5_host 0 = .ok (.aload_n 0, 1) := by decide +kernel
theorem dX5_host_1 : decode cX5_host 1 = .ok (.iload_n 1, 1) := by decide +kernel
theorem dX5_host_2 : decode cX5_host 2 = .ok (.sipush 256, 3) := by decide +kernel
theorem dX5_host_5 : decode cX5_host 5 = .ok (.invokestatic 61, 3) := by decide +kernel
theorem dX5_host_8 : decode cX5_host 8 = .ok (.ifCond .ne 7, 3) := by decide +kernel
theorem dX5_host_11 : decode cX5_host 11 = .ok (.iconst 1, 1) := by decide +kernel
theorem dX5_host_12 : decode cX5_host 12 = .ok (.goto 4, 3) := by decide +kernel
theorem dX5_host_15 : decode cX5_host 15 = .ok (.iconst 0, 1) := by decide +kernel
theorem dX5_host_16 : decode cX5_host 16 = .ok (.iload_n 2, 1) := by decide +kernel
theorem dX5_host_17 : decode cX5_host 17 = .ok (.iconst (-1), 1) := by decide +kernel
theorem dX5_host_18 : decode cX5_host 18 = .ok (.if_icmp .lt 9, 3) := by decide +kernel
theorem dX5_host_21 : decode cX5_host 21 = .ok (.iload_n 2, 1) := by decide +kernel
theorem dX5_host_22 : decode cX5_host 22 = .ok (.ldc 72, 2) := by decide +kernel
theorem dX5_host_24 : decode cX5_host 24 = .ok (.if_icmp .le 7, 3) := by decide +kernel
theorem dX5_host_27 : decode cX5_host 27 = .ok (.iconst 1, 1) := by decide +kernel
theorem dX5_host_28 : decode cX5_host 28 = .ok (.goto 4, 3) := by decide +kernel
theorem dX5_host_31 : decode cX5_host 31 = .ok (.iconst 0, 1) := by decide +kernel
theorem dX5_host_32 : decode cX5_host 32 = .ok (.invokevirtual 65, 3) := by decide +kernel
theorem dX5_host_35 : decode cX5_host 35 = .ok (.ifCond .eq 5, 3) := by decide +kernel
theorem dX5_host_38 : decode cX5_host 38 = .ok (.iconst 0, 1) := by decide +kernel
theorem dX5_host_39 : decode cX5_host 39 = .ok (.ireturn, 1) := by decide +kernel
theorem dX5_host_40 : decode cX5_host 40 = .ok (.aload_n 0, 1) := by decide +kernel
theorem dX5_host_41 : decode cX5_host 41 = .ok (.getfield 17, 3) := by decide +kernel
theorem dX5_host_44 : decode cX5_host 44 = .ok (.iload_n 1, 1) := by decide +kernel
theorem dX5_host_45 : decode cX5_host 45 = .ok (.iaload, 1) := by decide +kernel
theorem dX5_host_46 : decode cX5_host 46 = .ok (.istore_n 3, 1) := by decide +kernel
theorem dX5_host_47 : decode cX5_host 47 = .ok (.aload_n 0, 1) := by decide +kernel
theorem dX5_host_48 : decode cX5_host 48 = .ok (.getfield 17, 3) := by decide +kernel
theorem dX5_host_51 : decode cX5_host 51 = .ok (.iload_n 1, 1) := by decide +kernel
theorem dX5_host_52 : decode cX5_host 52 = .ok (.iload_n 2, 1) := by decide +kernel
theorem dX5_host_53 : decode cX5_host 53 = .ok (.iastore, 1) := by decide +kernel
theorem dX5_host_54 : decode cX5_host 54 = .ok (.iload_n 3, 1) := by decide +kernel
theorem dX5_host_55 : decode cX5_host 55 = .ok (.ireturn, 1) := by decide +kernel
theorem dX5_hosts_0 : decode cX5_hosts 0 = .ok (.aload_n 0, 1) := by decide +kernel
theorem dX5_hosts_1 : decode cX5_hosts 1 = .ok (.iconst 0, 1) := by decide +kernel
theorem dX5_hosts_2 : decode cX5_hosts 2 = .ok (.putfield 58, 3) := by decide +kernel
theorem dX5_hosts_5 : decode cX5_hosts 5 = .ok (.aload_n 0, 1) := by decide +kernel
theorem dX5_hosts_6 : decode cX5_hosts 6 = .ok (.getfield 73, 3) := by decide +kernel
theorem dX5_hosts_9 : decode cX5_hosts 9 = .ok (.istore_n 2, 1) := by decide +kernel
theorem dX5_hosts_10 : decode cX5_hosts 10 = .ok (.aload_n 0, 1) := by decide +kernel
theorem dX5_hosts_11 : decode cX5_hosts 11 = .ok (.iload_n 1, 1) := by decide +kernel
theorem dX5_hosts_12 : decode cX5_hosts 12 = .ok (.putfield 73, 3) := by decide +kernel
theorem dX5_hosts_15 : decode cX5_hosts 15 = .ok (.iload_n 2, 1) := by decide +kernel
theorem dX5_hosts_16 : decode cX5_hosts 16 = .ok (.ireturn, 1) := by decide +kernel
theorem dX5_mapped_0 : decode cX5_mapped 0 = .ok (.aload_n 0, 1) := by decide +kernel
theorem dX5_mapped_1 : decode cX5_mapped 1 = .ok (.getfield 73, 3) := by decide +kernel
theorem dX5_mapped_4 : decode cX5_mapped 4 = .ok (.ifCond .ne 7, 3) := by decide +kernel
theorem dX5_mapped_7 : decode cX5_mapped 7 = .ok (.iload_n 1, 1) := by decide +kernel
theorem dX5_mapped_8 : decode cX5_mapped 8 = .ok (.goto 23, 3) := by decide +kernel
theorem dX5_mapped_11 : decode cX5_mapped 11 = .ok (.iload_n 1, 1) := by decide +kernel
theorem dX5_mapped_12 : decode cX5_mapped 12 = .ok (.sipush 256, 3) := by decide +kernel
theorem dX5_mapped_15 : decode cX5_mapped 15 = .ok (.invokestatic 61, 3) := by decide +kernel
theorem dX5_mapped_18 : decode cX5_mapped 18 = .ok (.ifCond .eq 12, 3) := by decide +kernel
theorem dX5_mapped_21 : decode cX5_mapped 21 = .ok (.aload_n 0, 1) := by decide +kernel
theorem dX5_mapped_22 : decode cX5_mapped 22 = .ok (.getfield 17, 3) := by decide +kernel
theorem dX5_mapped_25 : decode cX5_mapped 25 = .ok (.iload_n 1, 1) := by decide +kernel
theorem dX5_mapped_26 : decode cX5_mapped 26 = .ok (.iaload, 1) := by decide +kernel
theorem dX5_mapped_27 : decode cX5_mapped 27 = .ok (.goto 4, 3) := by decide +kernel
theorem dX5_mapped_30 : decode cX5_mapped 30 = .ok (.iconst (-1), 1) := by decide +kernel
theorem dX5_mapped_31 : decode cX5_mapped 31 = .ok (.ireturn, 1) := by decide +kernel
theorem dX5_frameOf_0 : decode cX5_frameOf 0 = .ok (.lload_n 0, 1) := by decide +kernel
theorem dX5_frameOf_1 : decode cX5_frameOf 1 = .ok (.bipush 8, 2) := by decide +kernel
theorem dX5_frameOf_3 : decode cX5_frameOf 3 = .ok (.lshr, 1) := by decide +kernel
theorem dX5_frameOf_4 : decode cX5_frameOf 4 = .ok (.l2i, 1) := by decide +kernel
theorem dX5_frameOf_5 : decode cX5_frameOf 5 = .ok (.ldc 77, 2) := by decide +kernel
theorem dX5_frameOf_7 : decode cX5_frameOf 7 = .ok (.iand, 1) := by decide +kernel
theorem dX5_frameOf_8 : decode cX5_frameOf 8 = .ok (.ireturn, 1) := by decide +kernel
theorem dX5_rightsOf_0 : decode cX5_rightsOf 0 = .ok (.lload_n 0, 1) := by decide +kernel
theorem dX5_rightsOf_1 : decode cX5_rightsOf 1 = .ok (.iconst 1, 1) := by decide +kernel
theorem dX5_rightsOf_2 : decode cX5_rightsOf 2 = .ok (.lshr, 1) := by decide +kernel
theorem dX5_rightsOf_3 : decode cX5_rightsOf 3 = .ok (.l2i, 1) := by decide +kernel
theorem dX5_rightsOf_4 : decode cX5_rightsOf 4 = .ok (.bipush 15, 2) := by decide +kernel
theorem dX5_rightsOf_6 : decode cX5_rightsOf 6 = .ok (.iand, 1) := by decide +kernel
theorem dX5_rightsOf_7 : decode cX5_rightsOf 7 = .ok (.ireturn, 1) := by decide +kernel
theorem dX5_does_0 : decode cX5_does 0 = .ok (.iload_n 0, 1) := by decide +kernel
theorem dX5_does_1 : decode cX5_does 1 = .ok (.iload_n 1, 1) := by decide +kernel
theorem dX5_does_2 : decode cX5_does 2 = .ok (.iconst 3, 1) := by decide +kernel
theorem dX5_does_3 : decode cX5_does 3 = .ok (.irem, 1) := by decide +kernel
theorem dX5_does_4 : decode cX5_does 4 = .ok (.ishr, 1) := by decide +kernel
theorem dX5_does_5 : decode cX5_does 5 = .ok (.iconst 1, 1) := by decide +kernel
theorem dX5_does_6 : decode cX5_does 6 = .ok (.iand, 1) := by decide +kernel
theorem dX5_does_7 : decode cX5_does 7 = .ok (.iconst 1, 1) := by decide +kernel
theorem dX5_does_8 : decode cX5_does 8 = .ok (.if_icmp .ne 21, 3) := by decide +kernel
theorem dX5_does_11 : decode cX5_does 11 = .ok (.iload_n 1, 1) := by decide +kernel
theorem dX5_does_12 : decode cX5_does 12 = .ok (.iconst 3, 1) := by decide +kernel
theorem dX5_does_13 : decode cX5_does 13 = .ok (.if_icmp .lt 12, 3) := by decide +kernel
theorem dX5_does_16 : decode cX5_does 16 = .ok (.iload_n 0, 1) := by decide +kernel
theorem dX5_does_17 : decode cX5_does 17 = .ok (.bipush 8, 2) := by decide +kernel
theorem dX5_does_19 : decode cX5_does 19 = .ok (.iand, 1) := by decide +kernel
theorem dX5_does_20 : decode cX5_does 20 = .ok (.bipush 8, 2) := by decide +kernel
theorem dX5_does_22 : decode cX5_does 22 = .ok (.if_icmp .ne 7, 3) := by decide +kernel
theorem dX5_does_25 : decode cX5_does 25 = .ok (.iconst 1, 1) := by decide +kernel
theorem dX5_does_26 : decode cX5_does 26 = .ok (.goto 4, 3) := by decide +kernel
theorem dX5_does_29 : decode cX5_does 29 = .ok (.iconst 0, 1) := by decide +kernel
theorem dX5_does_30 : decode cX5_does 30 = .ok (.ireturn, 1) := by decide +kernel
theorem dX5_isOutside_0 : decode cX5_isOutside 0 = .ok (.iload_n 1, 1) := by decide +kernel
theorem dX5_isOutside_1 : decode cX5_isOutside 1 = .ok (.ifCond .lt 17, 3) := by decide +kernel
theorem dX5_isOutside_4 : decode cX5_isOutside 4 = .ok (.iload_n 1, 1) := by decide +kernel
theorem dX5_isOutside_5 : decode cX5_isOutside 5 = .ok (.bipush 8, 2) := by decide +kernel
theorem dX5_isOutside_7 : decode cX5_isOutside 7 = .ok (.iconst 4, 1) := by decide +kernel
theorem dX5_isOutside_8 : decode cX5_isOutside 8 = .ok (.aload_n 0, 1) := by decide +kernel
theorem dX5_isOutside_9 : decode cX5_isOutside 9 = .ok (.getfield 52, 3) := by decide +kernel
theorem dX5_isOutside_12 : decode cX5_isOutside 12 = .ok (.imul, 1) := by decide +kernel
theorem dX5_isOutside_13 : decode cX5_isOutside 13 = .ok (.iadd, 1) := by decide +kernel
theorem dX5_isOutside_14 : decode cX5_isOutside 14 = .ok (.ishr, 1) := by decide +kernel
theorem dX5_isOutside_15 : decode cX5_isOutside 15 = .ok (.ifCond .le 7, 3) := by decide +kernel
theorem dX5_isOutside_18 : decode cX5_isOutside 18 = .ok (.iconst 1, 1) := by decide +kernel
theorem dX5_isOutside_19 : decode cX5_isOutside 19 = .ok (.goto 4, 3) := by decide +kernel
theorem dX5_isOutside_22 : decode cX5_isOutside 22 = .ok (.iconst 0, 1) := by decide +kernel
theorem dX5_isOutside_23 : decode cX5_isOutside 23 = .ok (.ireturn, 1) := by decide +kernel
theorem dX5_fails_0 : decode cX5_fails 0 = .ok (.aload_n 0, 1) := by decide +kernel
theorem dX5_fails_1 : decode cX5_fails 1 = .ok (.iload_n 1, 1) := by decide +kernel
theorem dX5_fails_2 : decode cX5_fails 2 = .ok (.putfield 78, 3) := by decide +kernel
theorem dX5_fails_5 : decode cX5_fails 5 = .ok (.aload_n 0, 1) := by decide +kernel
theorem dX5_fails_6 : decode cX5_fails 6 = .ok (.iload_n 2, 1) := by decide +kernel
theorem dX5_fails_7 : decode cX5_fails 7 = .ok (.putfield 81, 3) := by decide +kernel
theorem dX5_fails_10 : decode cX5_fails 10 = .ok (.iconst 0, 1) := by decide +kernel
theorem dX5_fails_11 : decode cX5_fails 11 = .ok (.ireturn, 1) := by decide +kernel
theorem dX5_behind_0 : decode cX5_behind 0 = .ok (.iload_n 0, 1) := by decide +kernel
theorem dX5_behind_1 : decode cX5_behind 1 = .ok (.bipush 8, 2) := by decide +kernel
theorem dX5_behind_3 : decode cX5_behind 3 = .ok (.ishr, 1) := by decide +kernel
theorem dX5_behind_4 : decode cX5_behind 4 = .ok (.iconst 1, 1) := by decide +kernel
theorem dX5_behind_5 : decode cX5_behind 5 = .ok (.iconst 4, 1) := by decide +kernel
theorem dX5_behind_6 : decode cX5_behind 6 = .ok (.iload_n 1, 1) := by decide +kernel
theorem dX5_behind_7 : decode cX5_behind 7 = .ok (.imul, 1) := by decide +kernel
theorem dX5_behind_8 : decode cX5_behind 8 = .ok (.ishl, 1) := by decide +kernel
theorem dX5_behind_9 : decode cX5_behind 9 = .ok (.iconst 1, 1) := by decide +kernel
theorem dX5_behind_10 : decode cX5_behind 10 = .ok (.isub, 1) := by decide +kernel
theorem dX5_behind_11 : decode cX5_behind 11 = .ok (.iand, 1) := by decide +kernel
theorem dX5_behind_12 : decode cX5_behind 12 = .ok (.ireturn, 1) := by decide +kernel
theorem dX5_ends_0 : decode cX5_ends 0 = .ok (.aload_n 0, 1) := by decide +kernel
theorem dX5_ends_1 : decode cX5_ends 1 = .ok (.iload_n 1, 1) := by decide +kernel
theorem dX5_ends_2 : decode cX5_ends 2 = .ok (.iload_n 3, 1) := by decide +kernel
theorem dX5_ends_3 : decode cX5_ends 3 = .ok (.iload_n 2, 1) := by decide +kernel
theorem dX5_ends_4 : decode cX5_ends 4 = .ok (.invokestatic 84, 3) := by decide +kernel
theorem dX5_ends_7 : decode cX5_ends 7 = .ok (.iadd, 1) := by decide +kernel
theorem dX5_ends_8 : decode cX5_ends 8 = .ok (.invokevirtual 88, 3) := by decide +kernel
theorem dX5_ends_11 : decode cX5_ends 11 = .ok (.istore 4, 2) := by decide +kernel
theorem dX5_ends_13 : decode cX5_ends 13 = .ok (.iload 4, 2) := by decide +kernel
theorem dX5_ends_15 : decode cX5_ends 15 = .ok (.ifCond .ge 14, 3) := by decide +kernel
theorem dX5_ends_18 : decode cX5_ends 18 = .ok (.aload_n 0, 1) := by decide +kernel
theorem dX5_ends_19 : decode cX5_ends 19 = .ok (.bipush 6, 2) := by decide +kernel
theorem dX5_ends_21 : decode cX5_ends 21 = .ok (.aload_n 0, 1) := by decide +kernel
theorem dX5_ends_22 : decode cX5_ends 22 = .ok (.getfield 52, 3) := by decide +kernel
theorem dX5_ends_25 : decode cX5_ends 25 = .ok (.invokevirtual 92, 3) := by decide +kernel
theorem dX5_ends_28 : decode cX5_ends 28 = .ok (.ireturn, 1) := by decide +kernel
theorem dX5_ends_29 : decode cX5_ends 29 = .ok (.aload_n 0, 1) := by decide +kernel
theorem dX5_ends_30 : decode cX5_ends 30 = .ok (.sipush 256, 3) := by decide +kernel
theorem dX5_ends_33 : decode cX5_ends 33 = .ok (.iload 4, 2) := by decide +kernel
theorem dX5_ends_35 : decode cX5_ends 35 = .ok (.imul, 1) := by decide +kernel
theorem dX5_ends_36 : decode cX5_ends 36 = .ok (.iload_n 3, 1) := by decide +kernel
theorem dX5_ends_37 : decode cX5_ends 37 = .ok (.sipush 255, 3) := by decide +kernel
theorem dX5_ends_40 : decode cX5_ends 40 = .ok (.iand, 1) := by decide +kernel
theorem dX5_ends_41 : decode cX5_ends 41 = .ok (.iadd, 1) := by decide +kernel
theorem dX5_ends_42 : decode cX5_ends 42 = .ok (.putfield 95, 3) := by decide +kernel
theorem dX5_ends_45 : decode cX5_ends 45 = .ok (.iconst 1, 1) := by decide +kernel
theorem dX5_ends_46 : decode cX5_ends 46 = .ok (.ireturn, 1) := by decide +kernel
theorem dX5_goes_0 : decode cX5_goes 0 = .ok (.aload_n 0, 1) := by decide +kernel
theorem dX5_goes_1 : decode cX5_goes 1 = .ok (.iconst (-1), 1) := by decide +kernel
theorem dX5_goes_2 : decode cX5_goes 2 = .ok (.putfield 98, 3) := by decide +kernel
theorem dX5_goes_5 : decode cX5_goes 5 = .ok (.aload_n 0, 1) := by decide +kernel
theorem dX5_goes_6 : decode cX5_goes 6 = .ok (.iload_n 1, 1) := by decide +kernel
theorem dX5_goes_7 : decode cX5_goes 7 = .ok (.invokevirtual 88, 3) := by decide +kernel
theorem dX5_goes_10 : decode cX5_goes 10 = .ok (.istore 5, 2) := by decide +kernel
theorem dX5_goes_12 : decode cX5_goes 12 = .ok (.iload 5, 2) := by decide +kernel
theorem dX5_goes_14 : decode cX5_goes 14 = .ok (.ifCond .ge 11, 3) := by decide +kernel
theorem dX5_goes_17 : decode cX5_goes 17 = .ok (.aload_n 0, 1) := by decide +kernel
theorem dX5_goes_18 : decode cX5_goes 18 = .ok (.bipush 6, 2) := by decide +kernel
theorem dX5_goes_20 : decode cX5_goes 20 = .ok (.iload_n 2, 1) := by decide +kernel
theorem dX5_goes_21 : decode cX5_goes 21 = .ok (.invokevirtual 92, 3) := by decide +kernel
theorem dX5_goes_24 : decode cX5_goes 24 = .ok (.ireturn, 1) := by decide +kernel
theorem dX5_goes_25 : decode cX5_goes 25 = .ok (.iload 5, 2) := by decide +kernel
theorem dX5_goes_27 : decode cX5_goes 27 = .ok (.sipush 256, 3) := by decide +kernel
theorem dX5_goes_30 : decode cX5_goes 30 = .ok (.if_icmp .lt 10, 3) := by decide +kernel
theorem dX5_goes_33 : decode cX5_goes 33 = .ok (.aload_n 0, 1) := by decide +kernel
theorem dX5_goes_34 : decode cX5_goes 34 = .ok (.iconst 5, 1) := by decide +kernel
theorem dX5_goes_35 : decode cX5_goes 35 = .ok (.iload_n 2, 1) := by decide +kernel
theorem dX5_goes_36 : decode cX5_goes 36 = .ok (.invokevirtual 92, 3) := by decide +kernel
theorem dX5_goes_39 : decode cX5_goes 39 = .ok (.ireturn, 1) := by decide +kernel
theorem dX5_goes_40 : decode cX5_goes 40 = .ok (.aload_n 0, 1) := by decide +kernel
theorem dX5_goes_41 : decode cX5_goes 41 = .ok (.getfield 52, 3) := by decide +kernel
theorem dX5_goes_44 : decode cX5_goes 44 = .ok (.iconst 1, 1) := by decide +kernel
theorem dX5_goes_45 : decode cX5_goes 45 = .ok (.isub, 1) := by decide +kernel
theorem dX5_goes_46 : decode cX5_goes 46 = .ok (.iload_n 2, 1) := by decide +kernel
theorem dX5_goes_47 : decode cX5_goes 47 = .ok (.isub, 1) := by decide +kernel
theorem dX5_goes_48 : decode cX5_goes 48 = .ok (.istore 6, 2) := by decide +kernel
theorem dX5_goes_50 : decode cX5_goes 50 = .ok (.bipush 16, 2) := by decide +kernel
theorem dX5_goes_52 : decode cX5_goes 52 = .ok (.iload 5, 2) := by decide +kernel
theorem dX5_goes_54 : decode cX5_goes 54 = .ok (.imul, 1) := by decide +kernel
theorem dX5_goes_55 : decode cX5_goes 55 = .ok (.iload_n 3, 1) := by decide +kernel
theorem dX5_goes_56 : decode cX5_goes 56 = .ok (.bipush 8, 2) := by decide +kernel
theorem dX5_goes_58 : decode cX5_goes 58 = .ok (.iconst 4, 1) := by decide +kernel
theorem dX5_goes_59 : decode cX5_goes 59 = .ok (.iload 6, 2) := by decide +kernel
theorem dX5_goes_61 : decode cX5_goes 61 = .ok (.imul, 1) := by decide +kernel
theorem dX5_goes_62 : decode cX5_goes 62 = .ok (.iadd, 1) := by decide +kernel
theorem dX5_goes_63 : decode cX5_goes 63 = .ok (.ishr, 1) := by decide +kernel
theorem dX5_goes_64 : decode cX5_goes 64 = .ok (.bipush 15, 2) := by decide +kernel
theorem dX5_goes_66 : decode cX5_goes 66 = .ok (.iand, 1) := by decide +kernel
theorem dX5_goes_67 : decode cX5_goes 67 = .ok (.iadd, 1) := by decide +kernel
theorem dX5_goes_68 : decode cX5_goes 68 = .ok (.istore 7, 2) := by decide +kernel
theorem dX5_goes_70 : decode cX5_goes 70 = .ok (.aload_n 0, 1) := by decide +kernel
theorem dX5_goes_71 : decode cX5_goes 71 = .ok (.getfield 49, 3) := by decide +kernel
theorem dX5_goes_74 : decode cX5_goes 74 = .ok (.aload_n 0, 1) := by decide +kernel
theorem dX5_goes_75 : decode cX5_goes 75 = .ok (.getfield 101, 3) := by decide +kernel
theorem dX5_goes_78 : decode cX5_goes 78 = .ok (.iload 7, 2) := by decide +kernel
theorem dX5_goes_80 : decode cX5_goes 80 = .ok (.iastore, 1) := by decide +kernel
theorem dX5_goes_81 : decode cX5_goes 81 = .ok (.aload_n 0, 1) := by decide +kernel
theorem dX5_goes_82 : decode cX5_goes 82 = .ok (.dup, 1) := by decide +kernel
theorem dX5_goes_83 : decode cX5_goes 83 = .ok (.getfield 101, 3) := by decide +kernel
theorem dX5_goes_86 : decode cX5_goes 86 = .ok (.iconst 1, 1) := by decide +kernel
theorem dX5_goes_87 : decode cX5_goes 87 = .ok (.iadd, 1) := by decide +kernel
theorem dX5_goes_88 : decode cX5_goes 88 = .ok (.putfield 101, 3) := by decide +kernel
theorem dX5_goes_91 : decode cX5_goes 91 = .ok (.aload_n 0, 1) := by decide +kernel
theorem dX5_goes_92 : decode cX5_goes 92 = .ok (.getfield 7, 3) := by decide +kernel
theorem dX5_goes_95 : decode cX5_goes 95 = .ok (.iload 7, 2) := by decide +kernel
theorem dX5_goes_97 : decode cX5_goes 97 = .ok (.laload, 1) := by decide +kernel
theorem dX5_goes_98 : decode cX5_goes 98 = .ok (.lstore 8, 2) := by decide +kernel
theorem dX5_goes_100 : decode cX5_goes 100 = .ok (.lload 8, 2) := by decide +kernel
theorem dX5_goes_102 : decode cX5_goes 102 = .ok (.lconst 1, 1) := by decide +kernel
theorem dX5_goes_103 : decode cX5_goes 103 = .ok (.land, 1) := by decide +kernel
theorem dX5_goes_104 : decode cX5_goes 104 = .ok (.lconst 0, 1) := by decide +kernel
theorem dX5_goes_105 : decode cX5_goes 105 = .ok (.lcmp, 1) := by decide +kernel
theorem dX5_goes_106 : decode cX5_goes 106 = .ok (.ifCond .ne 10, 3) := by decide +kernel
theorem dX5_goes_109 : decode cX5_goes 109 = .ok (.aload_n 0, 1) := by decide +kernel
theorem dX5_goes_110 : decode cX5_goes 110 = .ok (.iconst 2, 1) := by decide +kernel
theorem dX5_goes_111 : decode cX5_goes 111 = .ok (.iload_n 2, 1) := by decide +kernel
theorem dX5_goes_112 : decode cX5_goes 112 = .ok (.invokevirtual 92, 3) := by decide +kernel
theorem dX5_goes_115 : decode cX5_goes 115 = .ok (.ireturn, 1) := by decide +kernel
theorem dX5_goes_116 : decode cX5_goes 116 = .ok (.lload 8, 2) := by decide +kernel
theorem dX5_goes_118 : decode cX5_goes 118 = .ok (.ldc2_w 104, 3) := by decide +kernel
theorem dX5_goes_121 : decode cX5_goes 121 = .ok (.land, 1) := by decide +kernel
theorem dX5_goes_122 : decode cX5_goes 122 = .ok (.lconst 0, 1) := by decide +kernel
theorem dX5_goes_123 : decode cX5_goes 123 = .ok (.lcmp, 1) := by decide +kernel
theorem dX5_goes_124 : decode cX5_goes 124 = .ok (.ifCond .eq 12, 3) := by decide +kernel
theorem dX5_goes_127 : decode cX5_goes 127 = .ok (.iload 6, 2) := by decide +kernel
theorem dX5_goes_129 : decode cX5_goes 129 = .ok (.ifCond .le 7, 3) := by decide +kernel
theorem dX5_goes_132 : decode cX5_goes 132 = .ok (.iconst 1, 1) := by decide +kernel
theorem dX5_goes_133 : decode cX5_goes 133 = .ok (.goto 4, 3) := by decide +kernel
theorem dX5_goes_136 : decode cX5_goes 136 = .ok (.iconst 0, 1) := by decide +kernel
theorem dX5_goes_137 : decode cX5_goes 137 = .ok (.istore 10, 2) := by decide +kernel
theorem dX5_goes_139 : decode cX5_goes 139 = .ok (.iload 6, 2) := by decide +kernel
theorem dX5_goes_141 : decode cX5_goes 141 = .ok (.ifCond .le 10, 3) := by decide +kernel
theorem dX5_goes_144 : decode cX5_goes 144 = .ok (.iload 10, 2) := by decide +kernel
theorem dX5_goes_146 : decode cX5_goes 146 = .ok (.ifCond .ne 5, 3) := by decide +kernel
theorem dX5_goes_149 : decode cX5_goes 149 = .ok (.iconst 1, 1) := by decide +kernel
theorem dX5_goes_150 : decode cX5_goes 150 = .ok (.ireturn, 1) := by decide +kernel
theorem dX5_goes_151 : decode cX5_goes 151 = .ok (.iload 10, 2) := by decide +kernel
theorem dX5_goes_153 : decode cX5_goes 153 = .ok (.ifCond .eq 25, 3) := by decide +kernel
theorem dX5_goes_156 : decode cX5_goes 156 = .ok (.lload 8, 2) := by decide +kernel
theorem dX5_goes_158 : decode cX5_goes 158 = .ok (.invokestatic 106, 3) := by decide +kernel
theorem dX5_goes_161 : decode cX5_goes 161 = .ok (.iconst 1, 1) := by decide +kernel
theorem dX5_goes_162 : decode cX5_goes 162 = .ok (.iconst 4, 1) := by decide +kernel
theorem dX5_goes_163 : decode cX5_goes 163 = .ok (.iload 6, 2) := by decide +kernel
theorem dX5_goes_165 : decode cX5_goes 165 = .ok (.imul, 1) := by decide +kernel
theorem dX5_goes_166 : decode cX5_goes 166 = .ok (.ishl, 1) := by decide +kernel
theorem dX5_goes_167 : decode cX5_goes 167 = .ok (.irem, 1) := by decide +kernel
theorem dX5_goes_168 : decode cX5_goes 168 = .ok (.ifCond .eq 10, 3) := by decide +kernel
theorem dX5_goes_171 : decode cX5_goes 171 = .ok (.aload_n 0, 1) := by decide +kernel
theorem dX5_goes_172 : decode cX5_goes 172 = .ok (.iconst 4, 1) := by decide +kernel
theorem dX5_goes_173 : decode cX5_goes 173 = .ok (.iload_n 2, 1) := by decide +kernel
theorem dX5_goes_174 : decode cX5_goes 174 = .ok (.invokevirtual 92, 3) := by decide +kernel
theorem dX5_goes_177 : decode cX5_goes 177 = .ok (.ireturn, 1) := by decide +kernel
theorem dX5_goes_178 : decode cX5_goes 178 = .ok (.lload 8, 2) := by decide +kernel
theorem dX5_goes_180 : decode cX5_goes 180 = .ok (.invokestatic 110, 3) := by decide +kernel
theorem dX5_goes_183 : decode cX5_goes 183 = .ok (.iload 4, 2) := by decide +kernel
theorem dX5_goes_185 : decode cX5_goes 185 = .ok (.invokestatic 113, 3) := by decide +kernel
theorem dX5_goes_188 : decode cX5_goes 188 = .ok (.ifCond .ne 10, 3) := by decide +kernel
theorem dX5_goes_191 : decode cX5_goes 191 = .ok (.aload_n 0, 1) := by decide +kernel
theorem dX5_goes_192 : decode cX5_goes 192 = .ok (.iconst 3, 1) := by decide +kernel
theorem dX5_goes_193 : decode cX5_goes 193 = .ok (.iload_n 2, 1) := by decide +kernel
theorem dX5_goes_194 : decode cX5_goes 194 = .ok (.invokevirtual 92, 3) := by decide +kernel
theorem dX5_goes_197 : decode cX5_goes 197 = .ok (.ireturn, 1) := by decide +kernel
theorem dX5_goes_198 : decode cX5_goes 198 = .ok (.aload_n 0, 1) := by decide +kernel
theorem dX5_goes_199 : decode cX5_goes 199 = .ok (.iload 6, 2) := by decide +kernel
theorem dX5_goes_201 : decode cX5_goes 201 = .ok (.putfield 98, 3) := by decide +kernel
theorem dX5_goes_204 : decode cX5_goes 204 = .ok (.iconst 1, 1) := by decide +kernel
theorem dX5_goes_205 : decode cX5_goes 205 = .ok (.ireturn, 1) := by decide +kernel
theorem dX5_walks_0 : decode cX5_walks 0 = .ok (.aload_n 0, 1) := by decide +kernel
theorem dX5_walks_1 : decode cX5_walks 1 = .ok (.iconst 0, 1) := by decide +kernel
theorem dX5_walks_2 : decode cX5_walks 2 = .ok (.putfield 78, 3) := by decide +kernel
theorem dX5_walks_5 : decode cX5_walks 5 = .ok (.aload_n 0, 1) := by decide +kernel
theorem dX5_walks_6 : decode cX5_walks 6 = .ok (.iconst 0, 1) := by decide +kernel
theorem dX5_walks_7 : decode cX5_walks 7 = .ok (.putfield 101, 3) := by decide +kernel
theorem dX5_walks_10 : decode cX5_walks 10 = .ok (.aload_n 0, 1) := by decide +kernel
theorem dX5_walks_11 : decode cX5_walks 11 = .ok (.iload_n 1, 1) := by decide +kernel
theorem dX5_walks_12 : decode cX5_walks 12 = .ok (.invokevirtual 116, 3) := by decide +kernel
theorem dX5_walks_15 : decode cX5_walks 15 = .ok (.ifCond .eq 10, 3) := by decide +kernel
theorem dX5_walks_18 : decode cX5_walks 18 = .ok (.aload_n 0, 1) := by decide +kernel
theorem dX5_walks_19 : decode cX5_walks 19 = .ok (.iconst 1, 1) := by decide +kernel
theorem dX5_walks_20 : decode cX5_walks 20 = .ok (.iconst 0, 1) := by decide +kernel
theorem dX5_walks_21 : decode cX5_walks 21 = .ok (.invokevirtual 92, 3) := by decide +kernel
theorem dX5_walks_24 : decode cX5_walks 24 = .ok (.ireturn, 1) := by decide +kernel
theorem dX5_walks_25 : decode cX5_walks 25 = .ok (.aload_n 0, 1) := by decide +kernel
theorem dX5_walks_26 : decode cX5_walks 26 = .ok (.getfield 13, 3) := by decide +kernel
theorem dX5_walks_29 : decode cX5_walks 29 = .ok (.aload_n 0, 1) := by decide +kernel
theorem dX5_walks_30 : decode cX5_walks 30 = .ok (.getfield 69, 3) := by decide +kernel
theorem dX5_walks_33 : decode cX5_walks 33 = .ok (.iaload, 1) := by decide +kernel
theorem dX5_walks_34 : decode cX5_walks 34 = .ok (.istore_n 3, 1) := by decide +kernel
theorem dX5_walks_35 : decode cX5_walks 35 = .ok (.iconst 0, 1) := by decide +kernel
theorem dX5_walks_36 : decode cX5_walks 36 = .ok (.istore 4, 2) := by decide +kernel
theorem dX5_walks_38 : decode cX5_walks 38 = .ok (.iload 4, 2) := by decide +kernel
theorem dX5_walks_40 : decode cX5_walks 40 = .ok (.aload_n 0, 1) := by decide +kernel
theorem dX5_walks_41 : decode cX5_walks 41 = .ok (.getfield 52, 3) := by decide +kernel
theorem dX5_walks_44 : decode cX5_walks 44 = .ok (.if_icmp .ge 61, 3) := by decide +kernel
theorem dX5_walks_47 : decode cX5_walks 47 = .ok (.aload_n 0, 1) := by decide +kernel
theorem dX5_walks_48 : decode cX5_walks 48 = .ok (.iload_n 3, 1) := by decide +kernel
theorem dX5_walks_49 : decode cX5_walks 49 = .ok (.iload 4, 2) := by decide +kernel
theorem dX5_walks_51 : decode cX5_walks 51 = .ok (.iload_n 1, 1) := by decide +kernel
theorem dX5_walks_52 : decode cX5_walks 52 = .ok (.iload_n 2, 1) := by decide +kernel
theorem dX5_walks_53 : decode cX5_walks 53 = .ok (.invokevirtual 120, 3) := by decide +kernel
theorem dX5_walks_56 : decode cX5_walks 56 = .ok (.ifCond .ne 5, 3) := by decide +kernel
theorem dX5_walks_59 : decode cX5_walks 59 = .ok (.iconst 0, 1) := by decide +kernel
theorem dX5_walks_60 : decode cX5_walks 60 = .ok (.ireturn, 1) := by decide +kernel
theorem dX5_walks_61 : decode cX5_walks 61 = .ok (.aload_n 0, 1) := by decide +kernel
theorem dX5_walks_62 : decode cX5_walks 62 = .ok (.getfield 7, 3) := by decide +kernel
theorem dX5_walks_65 : decode cX5_walks 65 = .ok (.aload_n 0, 1) := by decide +kernel
theorem dX5_walks_66 : decode cX5_walks 66 = .ok (.getfield 49, 3) := by decide +kernel
theorem dX5_walks_69 : decode cX5_walks 69 = .ok (.aload_n 0, 1) := by decide +kernel
theorem dX5_walks_70 : decode cX5_walks 70 = .ok (.getfield 101, 3) := by decide +kernel
theorem dX5_walks_73 : decode cX5_walks 73 = .ok (.iconst 1, 1) := by decide +kernel
theorem dX5_walks_74 : decode cX5_walks 74 = .ok (.isub, 1) := by decide +kernel
theorem dX5_walks_75 : decode cX5_walks 75 = .ok (.iaload, 1) := by decide +kernel
theorem dX5_walks_76 : decode cX5_walks 76 = .ok (.laload, 1) := by decide +kernel
theorem dX5_walks_77 : decode cX5_walks 77 = .ok (.invokestatic 106, 3) := by decide +kernel
theorem dX5_walks_80 : decode cX5_walks 80 = .ok (.istore_n 3, 1) := by decide +kernel
theorem dX5_walks_81 : decode cX5_walks 81 = .ok (.aload_n 0, 1) := by decide +kernel
theorem dX5_walks_82 : decode cX5_walks 82 = .ok (.getfield 98, 3) := by decide +kernel
theorem dX5_walks_85 : decode cX5_walks 85 = .ok (.ifCond .lt 14, 3) := by decide +kernel
theorem dX5_walks_88 : decode cX5_walks 88 = .ok (.aload_n 0, 1) := by decide +kernel
theorem dX5_walks_89 : decode cX5_walks 89 = .ok (.iload_n 3, 1) := by decide +kernel
theorem dX5_walks_90 : decode cX5_walks 90 = .ok (.aload_n 0, 1) := by decide +kernel
theorem dX5_walks_91 : decode cX5_walks 91 = .ok (.getfield 98, 3) := by decide +kernel
theorem dX5_walks_94 : decode cX5_walks 94 = .ok (.iload_n 1, 1) := by decide +kernel
theorem dX5_walks_95 : decode cX5_walks 95 = .ok (.invokevirtual 124, 3) := by decide +kernel
theorem dX5_walks_98 : decode cX5_walks 98 = .ok (.ireturn, 1) := by decide +kernel
theorem dX5_walks_99 : decode cX5_walks 99 = .ok (.iinc 4 1, 3) := by decide +kernel
theorem dX5_walks_102 : decode cX5_walks 102 = .ok (.goto (-64), 3) := by decide +kernel
theorem dX5_walks_105 : decode cX5_walks 105 = .ok (.iconst 0, 1) := by decide +kernel
theorem dX5_walks_106 : decode cX5_walks 106 = .ok (.ireturn, 1) := by decide +kernel
theorem dX5_fits_0 : decode cX5_fits 0 = .ok (.aload_n 0, 1) := by decide +kernel
theorem dX5_fits_1 : decode cX5_fits 1 = .ok (.getfield 20, 3) := by decide +kernel
theorem dX5_fits_4 : decode cX5_fits 4 = .ok (.iload_n 1, 1) := by decide +kernel
theorem dX5_fits_5 : decode cX5_fits 5 = .ok (.iaload, 1) := by decide +kernel
theorem dX5_fits_6 : decode cX5_fits 6 = .ok (.aload_n 0, 1) := by decide +kernel
theorem dX5_fits_7 : decode cX5_fits 7 = .ok (.getfield 69, 3) := by decide +kernel
theorem dX5_fits_10 : decode cX5_fits 10 = .ok (.if_icmp .ne 29, 3) := by decide +kernel
theorem dX5_fits_13 : decode cX5_fits 13 = .ok (.iload_n 2, 1) := by decide +kernel
theorem dX5_fits_14 : decode cX5_fits 14 = .ok (.bipush 8, 2) := by decide +kernel
theorem dX5_fits_16 : decode cX5_fits 16 = .ok (.iconst 4, 1) := by decide +kernel
theorem dX5_fits_17 : decode cX5_fits 17 = .ok (.aload_n 0, 1) := by decide +kernel
theorem dX5_fits_18 : decode cX5_fits 18 = .ok (.getfield 23, 3) := by decide +kernel
theorem dX5_fits_21 : decode cX5_fits 21 = .ok (.iload_n 1, 1) := by decide +kernel
theorem dX5_fits_22 : decode cX5_fits 22 = .ok (.iaload, 1) := by decide +kernel
theorem dX5_fits_23 : decode cX5_fits 23 = .ok (.imul, 1) := by decide +kernel
theorem dX5_fits_24 : decode cX5_fits 24 = .ok (.iadd, 1) := by decide +kernel
theorem dX5_fits_25 : decode cX5_fits 25 = .ok (.ishr, 1) := by decide +kernel
theorem dX5_fits_26 : decode cX5_fits 26 = .ok (.aload_n 0, 1) := by decide +kernel
theorem dX5_fits_27 : decode cX5_fits 27 = .ok (.getfield 26, 3) := by decide +kernel
theorem dX5_fits_30 : decode cX5_fits 30 = .ok (.iload_n 1, 1) := by decide +kernel
theorem dX5_fits_31 : decode cX5_fits 31 = .ok (.iaload, 1) := by decide +kernel
theorem dX5_fits_32 : decode cX5_fits 32 = .ok (.if_icmp .ne 7, 3) := by decide +kernel
theorem dX5_fits_35 : decode cX5_fits 35 = .ok (.iconst 1, 1) := by decide +kernel
theorem dX5_fits_36 : decode cX5_fits 36 = .ok (.goto 4, 3) := by decide +kernel
theorem dX5_fits_39 : decode cX5_fits 39 = .ok (.iconst 0, 1) := by decide +kernel
theorem dX5_fits_40 : decode cX5_fits 40 = .ok (.ireturn, 1) := by decide +kernel
theorem dX5_entryFor_0 : decode cX5_entryFor 0 = .ok (.iconst (-1), 1) := by decide +kernel
theorem dX5_entryFor_1 : decode cX5_entryFor 1 = .ok (.istore_n 2, 1) := by decide +kernel
theorem dX5_entryFor_2 : decode cX5_entryFor 2 = .ok (.iconst 0, 1) := by decide +kernel
theorem dX5_entryFor_3 : decode cX5_entryFor 3 = .ok (.istore_n 3, 1) := by decide +kernel
theorem dX5_entryFor_4 : decode cX5_entryFor 4 = .ok (.iload_n 3, 1) := by decide +kernel
theorem dX5_entryFor_5 : decode cX5_entryFor 5 = .ok (.aload_n 0, 1) := by decide +kernel
theorem dX5_entryFor_6 : decode cX5_entryFor 6 = .ok (.getfield 128, 3) := by decide +kernel
theorem dX5_entryFor_9 : decode cX5_entryFor 9 = .ok (.if_icmp .ge 39, 3) := by decide +kernel
theorem dX5_entryFor_12 : decode cX5_entryFor 12 = .ok (.aload_n 0, 1) := by decide +kernel
theorem dX5_entryFor_13 : decode cX5_entryFor 13 = .ok (.iload_n 3, 1) := by decide +kernel
theorem dX5_entryFor_14 : decode cX5_entryFor 14 = .ok (.iload_n 1, 1) := by decide +kernel
theorem dX5_entryFor_15 : decode cX5_entryFor 15 = .ok (.invokevirtual 131, 3) := by decide +kernel
theorem dX5_entryFor_18 : decode cX5_entryFor 18 = .ok (.ifCond .eq 24, 3) := by decide +kernel
theorem dX5_entryFor_21 : decode cX5_entryFor 21 = .ok (.iload_n 2, 1) := by decide +kernel
theorem dX5_entryFor_22 : decode cX5_entryFor 22 = .ok (.ifCond .lt 18, 3) := by decide +kernel
theorem dX5_entryFor_25 : decode cX5_entryFor 25 = .ok (.aload_n 0, 1) := by decide +kernel
theorem dX5_entryFor_26 : decode cX5_entryFor 26 = .ok (.getfield 35, 3) := by decide +kernel
theorem dX5_entryFor_29 : decode cX5_entryFor 29 = .ok (.iload_n 3, 1) := by decide +kernel
theorem dX5_entryFor_30 : decode cX5_entryFor 30 = .ok (.iaload, 1) := by decide +kernel
theorem dX5_entryFor_31 : decode cX5_entryFor 31 = .ok (.aload_n 0, 1) := by decide +kernel
theorem dX5_entryFor_32 : decode cX5_entryFor 32 = .ok (.getfield 35, 3) := by decide +kernel
theorem dX5_entryFor_35 : decode cX5_entryFor 35 = .ok (.iload_n 2, 1) := by decide +kernel
theorem dX5_entryFor_36 : decode cX5_entryFor 36 = .ok (.iaload, 1) := by decide +kernel
theorem dX5_entryFor_37 : decode cX5_entryFor 37 = .ok (.if_icmp .le 5, 3) := by decide +kernel
theorem dX5_entryFor_40 : decode cX5_entryFor 40 = .ok (.iload_n 3, 1) := by decide +kernel
theorem dX5_entryFor_41 : decode cX5_entryFor 41 = .ok (.istore_n 2, 1) := by decide +kernel
theorem dX5_entryFor_42 : decode cX5_entryFor 42 = .ok (.iinc 3 1, 3) := by decide +kernel
theorem dX5_entryFor_45 : decode cX5_entryFor 45 = .ok (.goto (-41), 3) := by decide +kernel
theorem dX5_entryFor_48 : decode cX5_entryFor 48 = .ok (.iload_n 2, 1) := by decide +kernel
theorem dX5_entryFor_49 : decode cX5_entryFor 49 = .ok (.ireturn, 1) := by decide +kernel
theorem dX5_use_0 : decode cX5_use 0 = .ok (.aload_n 0, 1) := by decide +kernel
theorem dX5_use_1 : decode cX5_use 1 = .ok (.dup, 1) := by decide +kernel
theorem dX5_use_2 : decode cX5_use 2 = .ok (.getfield 134, 3) := by decide +kernel
theorem dX5_use_5 : decode cX5_use 5 = .ok (.iconst 1, 1) := by decide +kernel
theorem dX5_use_6 : decode cX5_use 6 = .ok (.iadd, 1) := by decide +kernel
theorem dX5_use_7 : decode cX5_use 7 = .ok (.putfield 134, 3) := by decide +kernel
theorem dX5_use_10 : decode cX5_use 10 = .ok (.aload_n 0, 1) := by decide +kernel
theorem dX5_use_11 : decode cX5_use 11 = .ok (.getfield 35, 3) := by decide +kernel
theorem dX5_use_14 : decode cX5_use 14 = .ok (.iload_n 1, 1) := by decide +kernel
theorem dX5_use_15 : decode cX5_use 15 = .ok (.aload_n 0, 1) := by decide +kernel
theorem dX5_use_16 : decode cX5_use 16 = .ok (.getfield 134, 3) := by decide +kernel
theorem dX5_use_19 : decode cX5_use 19 = .ok (.iastore, 1) := by decide +kernel
theorem dX5_use_20 : decode cX5_use 20 = .ok (.return_, 1) := by decide +kernel
theorem dX5_drop_0 : decode cX5_drop 0 = .ok (.aload_n 0, 1) := by decide +kernel
theorem dX5_drop_1 : decode cX5_drop 1 = .ok (.dup, 1) := by decide +kernel
theorem dX5_drop_2 : decode cX5_drop 2 = .ok (.getfield 128, 3) := by decide +kernel
theorem dX5_drop_5 : decode cX5_drop 5 = .ok (.iconst 1, 1) := by decide +kernel
theorem dX5_drop_6 : decode cX5_drop 6 = .ok (.isub, 1) := by decide +kernel
theorem dX5_drop_7 : decode cX5_drop 7 = .ok (.putfield 128, 3) := by decide +kernel
theorem dX5_drop_10 : decode cX5_drop 10 = .ok (.aload_n 0, 1) := by decide +kernel
theorem dX5_drop_11 : decode cX5_drop 11 = .ok (.getfield 20, 3) := by decide +kernel
theorem dX5_drop_14 : decode cX5_drop 14 = .ok (.iload_n 1, 1) := by decide +kernel
theorem dX5_drop_15 : decode cX5_drop 15 = .ok (.aload_n 0, 1) := by decide +kernel
theorem dX5_drop_16 : decode cX5_drop 16 = .ok (.getfield 20, 3) := by decide +kernel
theorem dX5_drop_19 : decode cX5_drop 19 = .ok (.aload_n 0, 1) := by decide +kernel
theorem dX5_drop_20 : decode cX5_drop 20 = .ok (.getfield 128, 3) := by decide +kernel
theorem dX5_drop_23 : decode cX5_drop 23 = .ok (.iaload, 1) := by decide +kernel
theorem dX5_drop_24 : decode cX5_drop 24 = .ok (.iastore, 1) := by decide +kernel
theorem dX5_drop_25 : decode cX5_drop 25 = .ok (.aload_n 0, 1) := by decide +kernel
theorem dX5_drop_26 : decode cX5_drop 26 = .ok (.getfield 23, 3) := by decide +kernel
theorem dX5_drop_29 : decode cX5_drop 29 = .ok (.iload_n 1, 1) := by decide +kernel
theorem dX5_drop_30 : decode cX5_drop 30 = .ok (.aload_n 0, 1) := by decide +kernel
theorem dX5_drop_31 : decode cX5_drop 31 = .ok (.getfield 23, 3) := by decide +kernel
theorem dX5_drop_34 : decode cX5_drop 34 = .ok (.aload_n 0, 1) := by decide +kernel
theorem dX5_drop_35 : decode cX5_drop 35 = .ok (.getfield 128, 3) := by decide +kernel
theorem dX5_drop_38 : decode cX5_drop 38 = .ok (.iaload, 1) := by decide +kernel
theorem dX5_drop_39 : decode cX5_drop 39 = .ok (.iastore, 1) := by decide +kernel
theorem dX5_drop_40 : decode cX5_drop 40 = .ok (.aload_n 0, 1) := by decide +kernel
theorem dX5_drop_41 : decode cX5_drop 41 = .ok (.getfield 26, 3) := by decide +kernel
theorem dX5_drop_44 : decode cX5_drop 44 = .ok (.iload_n 1, 1) := by decide +kernel
theorem dX5_drop_45 : decode cX5_drop 45 = .ok (.aload_n 0, 1) := by decide +kernel
theorem dX5_drop_46 : decode cX5_drop 46 = .ok (.getfield 26, 3) := by decide +kernel
theorem dX5_drop_49 : decode cX5_drop 49 = .ok (.aload_n 0, 1) := by decide +kernel
theorem dX5_drop_50 : decode cX5_drop 50 = .ok (.getfield 128, 3) := by decide +kernel
theorem dX5_drop_53 : decode cX5_drop 53 = .ok (.iaload, 1) := by decide +kernel
theorem dX5_drop_54 : decode cX5_drop 54 = .ok (.iastore, 1) := by decide +kernel
theorem dX5_drop_55 : decode cX5_drop 55 = .ok (.aload_n 0, 1) := by decide +kernel
theorem dX5_drop_56 : decode cX5_drop 56 = .ok (.getfield 29, 3) := by decide +kernel
theorem dX5_drop_59 : decode cX5_drop 59 = .ok (.iload_n 1, 1) := by decide +kernel
theorem dX5_drop_60 : decode cX5_drop 60 = .ok (.aload_n 0, 1) := by decide +kernel
theorem dX5_drop_61 : decode cX5_drop 61 = .ok (.getfield 29, 3) := by decide +kernel
theorem dX5_drop_64 : decode cX5_drop 64 = .ok (.aload_n 0, 1) := by decide +kernel
theorem dX5_drop_65 : decode cX5_drop 65 = .ok (.getfield 128, 3) := by decide +kernel
theorem dX5_drop_68 : decode cX5_drop 68 = .ok (.iaload, 1) := by decide +kernel
theorem dX5_drop_69 : decode cX5_drop 69 = .ok (.iastore, 1) := by decide +kernel
theorem dX5_drop_70 : decode cX5_drop 70 = .ok (.aload_n 0, 1) := by decide +kernel
theorem dX5_drop_71 : decode cX5_drop 71 = .ok (.getfield 32, 3) := by decide +kernel
theorem dX5_drop_74 : decode cX5_drop 74 = .ok (.iload_n 1, 1) := by decide +kernel
theorem dX5_drop_75 : decode cX5_drop 75 = .ok (.aload_n 0, 1) := by decide +kernel
theorem dX5_drop_76 : decode cX5_drop 76 = .ok (.getfield 32, 3) := by decide +kernel
theorem dX5_drop_79 : decode cX5_drop 79 = .ok (.aload_n 0, 1) := by decide +kernel
theorem dX5_drop_80 : decode cX5_drop 80 = .ok (.getfield 128, 3) := by decide +kernel
theorem dX5_drop_83 : decode cX5_drop 83 = .ok (.iaload, 1) := by decide +kernel
theorem dX5_drop_84 : decode cX5_drop 84 = .ok (.iastore, 1) := by decide +kernel
theorem dX5_drop_85 : decode cX5_drop 85 = .ok (.aload_n 0, 1) := by decide +kernel
theorem dX5_drop_86 : decode cX5_drop 86 = .ok (.getfield 35, 3) := by decide +kernel
theorem dX5_drop_89 : decode cX5_drop 89 = .ok (.iload_n 1, 1) := by decide +kernel
theorem dX5_drop_90 : decode cX5_drop 90 = .ok (.aload_n 0, 1) := by decide +kernel
theorem dX5_drop_91 : decode cX5_drop 91 = .ok (.getfield 35, 3) := by decide +kernel
theorem dX5_drop_94 : decode cX5_drop 94 = .ok (.aload_n 0, 1) := by decide +kernel
theorem dX5_drop_95 : decode cX5_drop 95 = .ok (.getfield 128, 3) := by decide +kernel
theorem dX5_drop_98 : decode cX5_drop 98 = .ok (.iaload, 1) := by decide +kernel
theorem dX5_drop_99 : decode cX5_drop 99 = .ok (.iastore, 1) := by decide +kernel
theorem dX5_drop_100 : decode cX5_drop 100 = .ok (.aload_n 0, 1) := by decide +kernel
theorem dX5_drop_101 : decode cX5_drop 101 = .ok (.getfield 38, 3) := by decide +kernel
theorem dX5_drop_104 : decode cX5_drop 104 = .ok (.iload_n 1, 1) := by decide +kernel
theorem dX5_drop_105 : decode cX5_drop 105 = .ok (.aload_n 0, 1) := by decide +kernel
theorem dX5_drop_106 : decode cX5_drop 106 = .ok (.getfield 38, 3) := by decide +kernel
theorem dX5_drop_109 : decode cX5_drop 109 = .ok (.aload_n 0, 1) := by decide +kernel
theorem dX5_drop_110 : decode cX5_drop 110 = .ok (.getfield 128, 3) := by decide +kernel
theorem dX5_drop_113 : decode cX5_drop 113 = .ok (.baload, 1) := by decide +kernel
theorem dX5_drop_114 : decode cX5_drop 114 = .ok (.bastore, 1) := by decide +kernel
theorem dX5_drop_115 : decode cX5_drop 115 = .ok (.return_, 1) := by decide +kernel
theorem dX5_keep_0 : decode cX5_keep 0 = .ok (.iload_n 1, 1) := by decide +kernel
theorem dX5_keep_1 : decode cX5_keep 1 = .ok (.bipush 8, 2) := by decide +kernel
theorem dX5_keep_3 : decode cX5_keep 3 = .ok (.iconst 4, 1) := by decide +kernel
theorem dX5_keep_4 : decode cX5_keep 4 = .ok (.aload_n 0, 1) := by decide +kernel
theorem dX5_keep_5 : decode cX5_keep 5 = .ok (.getfield 98, 3) := by decide +kernel
theorem dX5_keep_8 : decode cX5_keep 8 = .ok (.imul, 1) := by decide +kernel
theorem dX5_keep_9 : decode cX5_keep 9 = .ok (.iadd, 1) := by decide +kernel
theorem dX5_keep_10 : decode cX5_keep 10 = .ok (.ishr, 1) := by decide +kernel
theorem dX5_keep_11 : decode cX5_keep 11 = .ok (.istore_n 2, 1) := by decide +kernel
theorem dX5_keep_12 : decode cX5_keep 12 = .ok (.aload_n 0, 1) := by decide +kernel
theorem dX5_keep_13 : decode cX5_keep 13 = .ok (.getfield 128, 3) := by decide +kernel
theorem dX5_keep_16 : decode cX5_keep 16 = .ok (.iconst 1, 1) := by decide +kernel
theorem dX5_keep_17 : decode cX5_keep 17 = .ok (.isub, 1) := by decide +kernel
theorem dX5_keep_18 : decode cX5_keep 18 = .ok (.istore_n 3, 1) := by decide +kernel
theorem dX5_keep_19 : decode cX5_keep 19 = .ok (.iload_n 3, 1) := by decide +kernel
theorem dX5_keep_20 : decode cX5_keep 20 = .ok (.ifCond .lt 50, 3) := by decide +kernel
theorem dX5_keep_23 : decode cX5_keep 23 = .ok (.aload_n 0, 1) := by decide +kernel
theorem dX5_keep_24 : decode cX5_keep 24 = .ok (.getfield 20, 3) := by decide +kernel
theorem dX5_keep_27 : decode cX5_keep 27 = .ok (.iload_n 3, 1) := by decide +kernel
theorem dX5_keep_28 : decode cX5_keep 28 = .ok (.iaload, 1) := by decide +kernel
theorem dX5_keep_29 : decode cX5_keep 29 = .ok (.aload_n 0, 1) := by decide +kernel
theorem dX5_keep_30 : decode cX5_keep 30 = .ok (.getfield 69, 3) := by decide +kernel
theorem dX5_keep_33 : decode cX5_keep 33 = .ok (.if_icmp .ne 31, 3) := by decide +kernel
theorem dX5_keep_36 : decode cX5_keep 36 = .ok (.aload_n 0, 1) := by decide +kernel
theorem dX5_keep_37 : decode cX5_keep 37 = .ok (.getfield 23, 3) := by decide +kernel
theorem dX5_keep_40 : decode cX5_keep 40 = .ok (.iload_n 3, 1) := by decide +kernel
theorem dX5_keep_41 : decode cX5_keep 41 = .ok (.iaload, 1) := by decide +kernel
theorem dX5_keep_42 : decode cX5_keep 42 = .ok (.aload_n 0, 1) := by decide +kernel
theorem dX5_keep_43 : decode cX5_keep 43 = .ok (.getfield 98, 3) := by decide +kernel
theorem dX5_keep_46 : decode cX5_keep 46 = .ok (.if_icmp .ne 18, 3) := by decide +kernel
theorem dX5_keep_49 : decode cX5_keep 49 = .ok (.aload_n 0, 1) := by decide +kernel
theorem dX5_keep_50 : decode cX5_keep 50 = .ok (.getfield 26, 3) := by decide +kernel
theorem dX5_keep_53 : decode cX5_keep 53 = .ok (.iload_n 3, 1) := by decide +kernel
theorem dX5_keep_54 : decode cX5_keep 54 = .ok (.iaload, 1) := by decide +kernel
theorem dX5_keep_55 : decode cX5_keep 55 = .ok (.iload_n 2, 1) := by decide +kernel
theorem dX5_keep_56 : decode cX5_keep 56 = .ok (.if_icmp .ne 8, 3) := by decide +kernel
theorem dX5_keep_59 : decode cX5_keep 59 = .ok (.aload_n 0, 1) := by decide +kernel
theorem dX5_keep_60 : decode cX5_keep 60 = .ok (.iload_n 3, 1) := by decide +kernel
theorem dX5_keep_61 : decode cX5_keep 61 = .ok (.invokevirtual 137, 3) := by decide +kernel
theorem dX5_keep_64 : decode cX5_keep 64 = .ok (.iinc 3 (-1), 3) := by decide +kernel
theorem dX5_keep_67 : decode cX5_keep 67 = .ok (.goto (-48), 3) := by decide +kernel
theorem dX5_keep_70 : decode cX5_keep 70 = .ok (.aload_n 0, 1) := by decide +kernel
theorem dX5_keep_71 : decode cX5_keep 71 = .ok (.getfield 128, 3) := by decide +kernel
theorem dX5_keep_74 : decode cX5_keep 74 = .ok (.aload_n 0, 1) := by decide +kernel
theorem dX5_keep_75 : decode cX5_keep 75 = .ok (.getfield 55, 3) := by decide +kernel
theorem dX5_keep_78 : decode cX5_keep 78 = .ok (.if_icmp .ne 61, 3) := by decide +kernel
theorem dX5_keep_81 : decode cX5_keep 81 = .ok (.iconst 0, 1) := by decide +kernel
theorem dX5_keep_82 : decode cX5_keep 82 = .ok (.istore_n 3, 1) := by decide +kernel
theorem dX5_keep_83 : decode cX5_keep 83 = .ok (.iconst 1, 1) := by decide +kernel
theorem dX5_keep_84 : decode cX5_keep 84 = .ok (.istore 4, 2) := by decide +kernel
theorem dX5_keep_86 : decode cX5_keep 86 = .ok (.iload 4, 2) := by decide +kernel
theorem dX5_keep_88 : decode cX5_keep 88 = .ok (.aload_n 0, 1) := by decide +kernel
theorem dX5_keep_89 : decode cX5_keep 89 = .ok (.getfield 128, 3) := by decide +kernel
theorem dX5_keep_92 : decode cX5_keep 92 = .ok (.if_icmp .ge 32, 3) := by decide +kernel
theorem dX5_keep_95 : decode cX5_keep 95 = .ok (.aload_n 0, 1) := by decide +kernel
theorem dX5_keep_96 : decode cX5_keep 96 = .ok (.getfield 35, 3) := by decide +kernel
theorem dX5_keep_99 : decode cX5_keep 99 = .ok (.iload 4, 2) := by decide +kernel
theorem dX5_keep_101 : decode cX5_keep 101 = .ok (.iaload, 1) := by decide +kernel
theorem dX5_keep_102 : decode cX5_keep 102 = .ok (.aload_n 0, 1) := by decide +kernel
theorem dX5_keep_103 : decode cX5_keep 103 = .ok (.getfield 35, 3) := by decide +kernel
theorem dX5_keep_106 : decode cX5_keep 106 = .ok (.iload_n 3, 1) := by decide +kernel
theorem dX5_keep_107 : decode cX5_keep 107 = .ok (.iaload, 1) := by decide +kernel
theorem dX5_keep_108 : decode cX5_keep 108 = .ok (.if_icmp .ge 8, 3) := by decide +kernel
theorem dX5_keep_111 : decode cX5_keep 111 = .ok (.iload 4, 2) := by decide +kernel
theorem dX5_keep_113 : decode cX5_keep 113 = .ok (.goto 4, 3) := by decide +kernel
theorem dX5_keep_116 : decode cX5_keep 116 = .ok (.iload_n 3, 1) := by decide +kernel
theorem dX5_keep_117 : decode cX5_keep 117 = .ok (.istore_n 3, 1) := by decide +kernel
theorem dX5_keep_118 : decode cX5_keep 118 = .ok (.iinc 4 1, 3) := by decide +kernel
theorem dX5_keep_121 : decode cX5_keep 121 = .ok (.goto (-35), 3) := by decide +kernel
theorem dX5_keep_124 : decode cX5_keep 124 = .ok (.aload_n 0, 1) := by decide +kernel
theorem dX5_keep_125 : decode cX5_keep 125 = .ok (.iload_n 3, 1) := by decide +kernel
theorem dX5_keep_126 : decode cX5_keep 126 = .ok (.invokevirtual 137, 3) := by decide +kernel
theorem dX5_keep_129 : decode cX5_keep 129 = .ok (.aload_n 0, 1) := by decide +kernel
theorem dX5_keep_130 : decode cX5_keep 130 = .ok (.dup, 1) := by decide +kernel
theorem dX5_keep_131 : decode cX5_keep 131 = .ok (.getfield 141, 3) := by decide +kernel
theorem dX5_keep_134 : decode cX5_keep 134 = .ok (.iconst 1, 1) := by decide +kernel
theorem dX5_keep_135 : decode cX5_keep 135 = .ok (.iadd, 1) := by decide +kernel
theorem dX5_keep_136 : decode cX5_keep 136 = .ok (.putfield 141, 3) := by decide +kernel
theorem dX5_keep_139 : decode cX5_keep 139 = .ok (.aload_n 0, 1) := by decide +kernel
theorem dX5_keep_140 : decode cX5_keep 140 = .ok (.getfield 7, 3) := by decide +kernel
theorem dX5_keep_143 : decode cX5_keep 143 = .ok (.aload_n 0, 1) := by decide +kernel
theorem dX5_keep_144 : decode cX5_keep 144 = .ok (.getfield 49, 3) := by decide +kernel
theorem dX5_keep_147 : decode cX5_keep 147 = .ok (.aload_n 0, 1) := by decide +kernel
theorem dX5_keep_148 : decode cX5_keep 148 = .ok (.getfield 101, 3) := by decide +kernel
theorem dX5_keep_151 : decode cX5_keep 151 = .ok (.iconst 1, 1) := by decide +kernel
theorem dX5_keep_152 : decode cX5_keep 152 = .ok (.isub, 1) := by decide +kernel
theorem dX5_keep_153 : decode cX5_keep 153 = .ok (.iaload, 1) := by decide +kernel
theorem dX5_keep_154 : decode cX5_keep 154 = .ok (.laload, 1) := by decide +kernel
theorem dX5_keep_155 : decode cX5_keep 155 = .ok (.lstore_n 3, 1) := by decide +kernel
theorem dX5_keep_156 : decode cX5_keep 156 = .ok (.aload_n 0, 1) := by decide +kernel
theorem dX5_keep_157 : decode cX5_keep 157 = .ok (.getfield 20, 3) := by decide +kernel
theorem dX5_keep_160 : decode cX5_keep 160 = .ok (.aload_n 0, 1) := by decide +kernel
theorem dX5_keep_161 : decode cX5_keep 161 = .ok (.getfield 128, 3) := by decide +kernel
theorem dX5_keep_164 : decode cX5_keep 164 = .ok (.aload_n 0, 1) := by decide +kernel
theorem dX5_keep_165 : decode cX5_keep 165 = .ok (.getfield 69, 3) := by decide +kernel
theorem dX5_keep_168 : decode cX5_keep 168 = .ok (.iastore, 1) := by decide +kernel
theorem dX5_keep_169 : decode cX5_keep 169 = .ok (.aload_n 0, 1) := by decide +kernel
theorem dX5_keep_170 : decode cX5_keep 170 = .ok (.getfield 23, 3) := by decide +kernel
theorem dX5_keep_173 : decode cX5_keep 173 = .ok (.aload_n 0, 1) := by decide +kernel
theorem dX5_keep_174 : decode cX5_keep 174 = .ok (.getfield 128, 3) := by decide +kernel
theorem dX5_keep_177 : decode cX5_keep 177 = .ok (.aload_n 0, 1) := by decide +kernel
theorem dX5_keep_178 : decode cX5_keep 178 = .ok (.getfield 98, 3) := by decide +kernel
theorem dX5_keep_181 : decode cX5_keep 181 = .ok (.iastore, 1) := by decide +kernel
theorem dX5_keep_182 : decode cX5_keep 182 = .ok (.aload_n 0, 1) := by decide +kernel
theorem dX5_keep_183 : decode cX5_keep 183 = .ok (.getfield 26, 3) := by decide +kernel
theorem dX5_keep_186 : decode cX5_keep 186 = .ok (.aload_n 0, 1) := by decide +kernel
theorem dX5_keep_187 : decode cX5_keep 187 = .ok (.getfield 128, 3) := by decide +kernel
theorem dX5_keep_190 : decode cX5_keep 190 = .ok (.iload_n 2, 1) := by decide +kernel
theorem dX5_keep_191 : decode cX5_keep 191 = .ok (.iastore, 1) := by decide +kernel
theorem dX5_keep_192 : decode cX5_keep 192 = .ok (.aload_n 0, 1) := by decide +kernel
theorem dX5_keep_193 : decode cX5_keep 193 = .ok (.getfield 29, 3) := by decide +kernel
theorem dX5_keep_196 : decode cX5_keep 196 = .ok (.aload_n 0, 1) := by decide +kernel
theorem dX5_keep_197 : decode cX5_keep 197 = .ok (.getfield 128, 3) := by decide +kernel
theorem dX5_keep_200 : decode cX5_keep 200 = .ok (.lload_n 3, 1) := by decide +kernel
theorem dX5_keep_201 : decode cX5_keep 201 = .ok (.invokestatic 106, 3) := by decide +kernel
theorem dX5_keep_204 : decode cX5_keep 204 = .ok (.iastore, 1) := by decide +kernel
theorem dX5_keep_205 : decode cX5_keep 205 = .ok (.aload_n 0, 1) := by decide +kernel
theorem dX5_keep_206 : decode cX5_keep 206 = .ok (.getfield 32, 3) := by decide +kernel
theorem dX5_keep_209 : decode cX5_keep 209 = .ok (.aload_n 0, 1) := by decide +kernel
theorem dX5_keep_210 : decode cX5_keep 210 = .ok (.getfield 128, 3) := by decide +kernel
theorem dX5_keep_213 : decode cX5_keep 213 = .ok (.lload_n 3, 1) := by decide +kernel
theorem dX5_keep_214 : decode cX5_keep 214 = .ok (.invokestatic 110, 3) := by decide +kernel
theorem dX5_keep_217 : decode cX5_keep 217 = .ok (.iastore, 1) := by decide +kernel
theorem dX5_keep_218 : decode cX5_keep 218 = .ok (.aload_n 0, 1) := by decide +kernel
theorem dX5_keep_219 : decode cX5_keep 219 = .ok (.getfield 38, 3) := by decide +kernel
theorem dX5_keep_222 : decode cX5_keep 222 = .ok (.aload_n 0, 1) := by decide +kernel
theorem dX5_keep_223 : decode cX5_keep 223 = .ok (.getfield 128, 3) := by decide +kernel
theorem dX5_keep_226 : decode cX5_keep 226 = .ok (.lload_n 3, 1) := by decide +kernel
theorem dX5_keep_227 : decode cX5_keep 227 = .ok (.ldc2_w 144, 3) := by decide +kernel
theorem dX5_keep_230 : decode cX5_keep 230 = .ok (.land, 1) := by decide +kernel
theorem dX5_keep_231 : decode cX5_keep 231 = .ok (.lconst 0, 1) := by decide +kernel
theorem dX5_keep_232 : decode cX5_keep 232 = .ok (.lcmp, 1) := by decide +kernel
theorem dX5_keep_233 : decode cX5_keep 233 = .ok (.ifCond .eq 7, 3) := by decide +kernel
theorem dX5_keep_236 : decode cX5_keep 236 = .ok (.iconst 1, 1) := by decide +kernel
theorem dX5_keep_237 : decode cX5_keep 237 = .ok (.goto 4, 3) := by decide +kernel
theorem dX5_keep_240 : decode cX5_keep 240 = .ok (.iconst 0, 1) := by decide +kernel
theorem dX5_keep_241 : decode cX5_keep 241 = .ok (.bastore, 1) := by decide +kernel
theorem dX5_keep_242 : decode cX5_keep 242 = .ok (.aload_n 0, 1) := by decide +kernel
theorem dX5_keep_243 : decode cX5_keep 243 = .ok (.dup, 1) := by decide +kernel
theorem dX5_keep_244 : decode cX5_keep 244 = .ok (.getfield 128, 3) := by decide +kernel
theorem dX5_keep_247 : decode cX5_keep 247 = .ok (.iconst 1, 1) := by decide +kernel
theorem dX5_keep_248 : decode cX5_keep 248 = .ok (.iadd, 1) := by decide +kernel
theorem dX5_keep_249 : decode cX5_keep 249 = .ok (.putfield 128, 3) := by decide +kernel
theorem dX5_keep_252 : decode cX5_keep 252 = .ok (.aload_n 0, 1) := by decide +kernel
theorem dX5_keep_253 : decode cX5_keep 253 = .ok (.aload_n 0, 1) := by decide +kernel
theorem dX5_keep_254 : decode cX5_keep 254 = .ok (.getfield 128, 3) := by decide +kernel
theorem dX5_keep_257 : decode cX5_keep 257 = .ok (.iconst 1, 1) := by decide +kernel
theorem dX5_keep_258 : decode cX5_keep 258 = .ok (.isub, 1) := by decide +kernel
theorem dX5_keep_259 : decode cX5_keep 259 = .ok (.invokevirtual 146, 3) := by decide +kernel
theorem dX5_keep_262 : decode cX5_keep 262 = .ok (.return_, 1) := by decide +kernel
theorem dX5_mark_0 : decode cX5_mark 0 = .ok (.iconst 0, 1) := by decide +kernel
theorem dX5_mark_1 : decode cX5_mark 1 = .ok (.istore_n 2, 1) := by decide +kernel
theorem dX5_mark_2 : decode cX5_mark 2 = .ok (.iload_n 2, 1) := by decide +kernel
theorem dX5_mark_3 : decode cX5_mark 3 = .ok (.aload_n 0, 1) := by decide +kernel
theorem dX5_mark_4 : decode cX5_mark 4 = .ok (.getfield 101, 3) := by decide +kernel
theorem dX5_mark_7 : decode cX5_mark 7 = .ok (.if_icmp .ge 26, 3) := by decide +kernel
theorem dX5_mark_10 : decode cX5_mark 10 = .ok (.aload_n 0, 1) := by decide +kernel
theorem dX5_mark_11 : decode cX5_mark 11 = .ok (.getfield 7, 3) := by decide +kernel
theorem dX5_mark_14 : decode cX5_mark 14 = .ok (.aload_n 0, 1) := by decide +kernel
theorem dX5_mark_15 : decode cX5_mark 15 = .ok (.getfield 49, 3) := by decide +kernel
theorem dX5_mark_18 : decode cX5_mark 18 = .ok (.iload_n 2, 1) := by decide +kernel
theorem dX5_mark_19 : decode cX5_mark 19 = .ok (.iaload, 1) := by decide +kernel
theorem dX5_mark_20 : decode cX5_mark 20 = .ok (.dup2, 1) := by decide +kernel
theorem dX5_mark_21 : decode cX5_mark 21 = .ok (.laload, 1) := by decide +kernel
theorem dX5_mark_22 : decode cX5_mark 22 = .ok (.ldc2_w 149, 3) := by decide +kernel
theorem dX5_mark_25 : decode cX5_mark 25 = .ok (.lor, 1) := by decide +kernel
theorem dX5_mark_26 : decode cX5_mark 26 = .ok (.lastore, 1) := by decide +kernel
theorem dX5_mark_27 : decode cX5_mark 27 = .ok (.iinc 2 1, 3) := by decide +kernel
theorem dX5_mark_30 : decode cX5_mark 30 = .ok (.goto (-28), 3) := by decide +kernel
theorem dX5_mark_33 : decode cX5_mark 33 = .ok (.iload_n 1, 1) := by decide +kernel
theorem dX5_mark_34 : decode cX5_mark 34 = .ok (.iconst 3, 1) := by decide +kernel
theorem dX5_mark_35 : decode cX5_mark 35 = .ok (.irem, 1) := by decide +kernel
theorem dX5_mark_36 : decode cX5_mark 36 = .ok (.iconst 1, 1) := by decide +kernel
theorem dX5_mark_37 : decode cX5_mark 37 = .ok (.if_icmp .ne 25, 3) := by decide +kernel
theorem dX5_mark_40 : decode cX5_mark 40 = .ok (.aload_n 0, 1) := by decide +kernel
theorem dX5_mark_41 : decode cX5_mark 41 = .ok (.getfield 7, 3) := by decide +kernel
theorem dX5_mark_44 : decode cX5_mark 44 = .ok (.aload_n 0, 1) := by decide +kernel
theorem dX5_mark_45 : decode cX5_mark 45 = .ok (.getfield 49, 3) := by decide +kernel
theorem dX5_mark_48 : decode cX5_mark 48 = .ok (.aload_n 0, 1) := by decide +kernel
theorem dX5_mark_49 : decode cX5_mark 49 = .ok (.getfield 101, 3) := by decide +kernel
theorem dX5_mark_52 : decode cX5_mark 52 = .ok (.iconst 1, 1) := by decide +kernel
theorem dX5_mark_53 : decode cX5_mark 53 = .ok (.isub, 1) := by decide +kernel
theorem dX5_mark_54 : decode cX5_mark 54 = .ok (.iaload, 1) := by decide +kernel
theorem dX5_mark_55 : decode cX5_mark 55 = .ok (.dup2, 1) := by decide +kernel
theorem dX5_mark_56 : decode cX5_mark 56 = .ok (.laload, 1) := by decide +kernel
theorem dX5_mark_57 : decode cX5_mark 57 = .ok (.ldc2_w 144, 3) := by decide +kernel
theorem dX5_mark_60 : decode cX5_mark 60 = .ok (.lor, 1) := by decide +kernel
theorem dX5_mark_61 : decode cX5_mark 61 = .ok (.lastore, 1) := by decide +kernel
theorem dX5_mark_62 : decode cX5_mark 62 = .ok (.return_, 1) := by decide +kernel
theorem dX5_told_0 : decode cX5_told 0 = .ok (.aload_n 0, 1) := by decide +kernel
theorem dX5_told_1 : decode cX5_told 1 = .ok (.iload_n 1, 1) := by decide +kernel
theorem dX5_told_2 : decode cX5_told 2 = .ok (.ifCond .eq 10, 3) := by decide +kernel
theorem dX5_told_5 : decode cX5_told 5 = .ok (.aload_n 0, 1) := by decide +kernel
theorem dX5_told_6 : decode cX5_told 6 = .ok (.getfield 95, 3) := by decide +kernel
theorem dX5_told_9 : decode cX5_told 9 = .ok (.goto 4, 3) := by decide +kernel
theorem dX5_told_12 : decode cX5_told 12 = .ok (.iconst (-1), 1) := by decide +kernel
theorem dX5_told_13 : decode cX5_told 13 = .ok (.putfield 42, 3) := by decide +kernel
theorem dX5_told_16 : decode cX5_told 16 = .ok (.aload_n 0, 1) := by decide +kernel
theorem dX5_told_17 : decode cX5_told 17 = .ok (.iload_n 1, 1) := by decide +kernel
theorem dX5_told_18 : decode cX5_told 18 = .ok (.ifCond .eq 7, 3) := by decide +kernel
theorem dX5_told_21 : decode cX5_told 21 = .ok (.iconst (-1), 1) := by decide +kernel
theorem dX5_told_22 : decode cX5_told 22 = .ok (.goto 7, 3) := by decide +kernel
theorem dX5_told_25 : decode cX5_told 25 = .ok (.aload_n 0, 1) := by decide +kernel
theorem dX5_told_26 : decode cX5_told 26 = .ok (.getfield 81, 3) := by decide +kernel
theorem dX5_told_29 : decode cX5_told 29 = .ok (.putfield 46, 3) := by decide +kernel
theorem dX5_told_32 : decode cX5_told 32 = .ok (.aload_n 0, 1) := by decide +kernel
theorem dX5_told_33 : decode cX5_told 33 = .ok (.dup, 1) := by decide +kernel
theorem dX5_told_34 : decode cX5_told 34 = .ok (.getfield 151, 3) := by decide +kernel
theorem dX5_told_37 : decode cX5_told 37 = .ok (.iload_n 1, 1) := by decide +kernel
theorem dX5_told_38 : decode cX5_told 38 = .ok (.ifCond .eq 7, 3) := by decide +kernel
theorem dX5_told_41 : decode cX5_told 41 = .ok (.iconst 0, 1) := by decide +kernel
theorem dX5_told_42 : decode cX5_told 42 = .ok (.goto 4, 3) := by decide +kernel
theorem dX5_told_45 : decode cX5_told 45 = .ok (.iconst 1, 1) := by decide +kernel
theorem dX5_told_46 : decode cX5_told 46 = .ok (.iadd, 1) := by decide +kernel
theorem dX5_told_47 : decode cX5_told 47 = .ok (.putfield 151, 3) := by decide +kernel
theorem dX5_told_50 : decode cX5_told 50 = .ok (.iload_n 1, 1) := by decide +kernel
theorem dX5_told_51 : decode cX5_told 51 = .ok (.ifCond .eq 7, 3) := by decide +kernel
theorem dX5_told_54 : decode cX5_told 54 = .ok (.iconst 0, 1) := by decide +kernel
theorem dX5_told_55 : decode cX5_told 55 = .ok (.goto 7, 3) := by decide +kernel
theorem dX5_told_58 : decode cX5_told 58 = .ok (.aload_n 0, 1) := by decide +kernel
theorem dX5_told_59 : decode cX5_told 59 = .ok (.getfield 78, 3) := by decide +kernel
theorem dX5_told_62 : decode cX5_told 62 = .ok (.ireturn, 1) := by decide +kernel
theorem dX5_byEntry_0 : decode cX5_byEntry 0 = .ok (.aload_n 0, 1) := by decide +kernel
theorem dX5_byEntry_1 : decode cX5_byEntry 1 = .ok (.dup, 1) := by decide +kernel
theorem dX5_byEntry_2 : decode cX5_byEntry 2 = .ok (.getfield 154, 3) := by decide +kernel
theorem dX5_byEntry_5 : decode cX5_byEntry 5 = .ok (.iconst 1, 1) := by decide +kernel
theorem dX5_byEntry_6 : decode cX5_byEntry 6 = .ok (.iadd, 1) := by decide +kernel
theorem dX5_byEntry_7 : decode cX5_byEntry 7 = .ok (.putfield 154, 3) := by decide +kernel
theorem dX5_byEntry_10 : decode cX5_byEntry 10 = .ok (.aload_n 0, 1) := by decide +kernel
theorem dX5_byEntry_11 : decode cX5_byEntry 11 = .ok (.iload_n 1, 1) := by decide +kernel
theorem dX5_byEntry_12 : decode cX5_byEntry 12 = .ok (.invokevirtual 146, 3) := by decide +kernel
theorem dX5_byEntry_15 : decode cX5_byEntry 15 = .ok (.aload_n 0, 1) := by decide +kernel
theorem dX5_byEntry_16 : decode cX5_byEntry 16 = .ok (.getfield 32, 3) := by decide +kernel
theorem dX5_byEntry_19 : decode cX5_byEntry 19 = .ok (.iload_n 1, 1) := by decide +kernel
theorem dX5_byEntry_20 : decode cX5_byEntry 20 = .ok (.iaload, 1) := by decide +kernel
theorem dX5_byEntry_21 : decode cX5_byEntry 21 = .ok (.iload_n 3, 1) := by decide +kernel
theorem dX5_byEntry_22 : decode cX5_byEntry 22 = .ok (.invokestatic 113, 3) := by decide +kernel
theorem dX5_byEntry_25 : decode cX5_byEntry 25 = .ok (.ifCond .ne 13, 3) := by decide +kernel
theorem dX5_byEntry_28 : decode cX5_byEntry 28 = .ok (.aload_n 0, 1) := by decide +kernel
theorem dX5_byEntry_29 : decode cX5_byEntry 29 = .ok (.iconst 3, 1) := by decide +kernel
theorem dX5_byEntry_30 : decode cX5_byEntry 30 = .ok (.aload_n 0, 1) := by decide +kernel
theorem dX5_byEntry_31 : decode cX5_byEntry 31 = .ok (.getfield 52, 3) := by decide +kernel
theorem dX5_byEntry_34 : decode cX5_byEntry 34 = .ok (.invokevirtual 92, 3) := by decide +kernel
theorem dX5_byEntry_37 : decode cX5_byEntry 37 = .ok (.ireturn, 1) := by decide +kernel
theorem dX5_byEntry_38 : decode cX5_byEntry 38 = .ok (.aload_n 0, 1) := by decide +kernel
theorem dX5_byEntry_39 : decode cX5_byEntry 39 = .ok (.aload_n 0, 1) := by decide +kernel
theorem dX5_byEntry_40 : decode cX5_byEntry 40 = .ok (.getfield 29, 3) := by decide +kernel
theorem dX5_byEntry_43 : decode cX5_byEntry 43 = .ok (.iload_n 1, 1) := by decide +kernel
theorem dX5_byEntry_44 : decode cX5_byEntry 44 = .ok (.iaload, 1) := by decide +kernel
theorem dX5_byEntry_45 : decode cX5_byEntry 45 = .ok (.aload_n 0, 1) := by decide +kernel
theorem dX5_byEntry_46 : decode cX5_byEntry 46 = .ok (.getfield 23, 3) := by decide +kernel
theorem dX5_byEntry_49 : decode cX5_byEntry 49 = .ok (.iload_n 1, 1) := by decide +kernel
theorem dX5_byEntry_50 : decode cX5_byEntry 50 = .ok (.iaload, 1) := by decide +kernel
theorem dX5_byEntry_51 : decode cX5_byEntry 51 = .ok (.iload_n 2, 1) := by decide +kernel
theorem dX5_byEntry_52 : decode cX5_byEntry 52 = .ok (.invokevirtual 124, 3) := by decide +kernel
theorem dX5_byEntry_55 : decode cX5_byEntry 55 = .ok (.ireturn, 1) := by decide +kernel
theorem dX5_walk_0 : decode cX5_walk 0 = .ok (.aload_n 0, 1) := by decide +kernel
theorem dX5_walk_1 : decode cX5_walk 1 = .ok (.iload_n 2, 1) := by decide +kernel
theorem dX5_walk_2 : decode cX5_walk 2 = .ok (.bipush 6, 2) := by decide +kernel
theorem dX5_walk_4 : decode cX5_walk 4 = .ok (.invokestatic 61, 3) := by decide +kernel
theorem dX5_walk_7 : decode cX5_walk 7 = .ok (.ifCond .ne 7, 3) := by decide +kernel
theorem dX5_walk_10 : decode cX5_walk 10 = .ok (.iconst 1, 1) := by decide +kernel
theorem dX5_walk_11 : decode cX5_walk 11 = .ok (.goto 4, 3) := by decide +kernel
theorem dX5_walk_14 : decode cX5_walk 14 = .ok (.iconst 0, 1) := by decide +kernel
theorem dX5_walk_15 : decode cX5_walk 15 = .ok (.iconst 0, 1) := by decide +kernel
theorem dX5_walk_16 : decode cX5_walk 16 = .ok (.invokevirtual 65, 3) := by decide +kernel
theorem dX5_walk_19 : decode cX5_walk 19 = .ok (.ifCond .eq 5, 3) := by decide +kernel
theorem dX5_walk_22 : decode cX5_walk 22 = .ok (.iconst 0, 1) := by decide +kernel
theorem dX5_walk_23 : decode cX5_walk 23 = .ok (.ireturn, 1) := by decide +kernel
theorem dX5_walk_24 : decode cX5_walk 24 = .ok (.aload_n 0, 1) := by decide +kernel
theorem dX5_walk_25 : decode cX5_walk 25 = .ok (.iload_n 1, 1) := by decide +kernel
theorem dX5_walk_26 : decode cX5_walk 26 = .ok (.invokevirtual 116, 3) := by decide +kernel
theorem dX5_walk_29 : decode cX5_walk 29 = .ok (.ifCond .eq 7, 3) := by decide +kernel
theorem dX5_walk_32 : decode cX5_walk 32 = .ok (.iconst (-1), 1) := by decide +kernel
theorem dX5_walk_33 : decode cX5_walk 33 = .ok (.goto 8, 3) := by decide +kernel
theorem dX5_walk_36 : decode cX5_walk 36 = .ok (.aload_n 0, 1) := by decide +kernel
theorem dX5_walk_37 : decode cX5_walk 37 = .ok (.iload_n 1, 1) := by decide +kernel
theorem dX5_walk_38 : decode cX5_walk 38 = .ok (.invokevirtual 157, 3) := by decide +kernel
theorem dX5_walk_41 : decode cX5_walk 41 = .ok (.istore_n 3, 1) := by decide +kernel
theorem dX5_walk_42 : decode cX5_walk 42 = .ok (.iload_n 2, 1) := by decide +kernel
theorem dX5_walk_43 : decode cX5_walk 43 = .ok (.iconst 3, 1) := by decide +kernel
theorem dX5_walk_44 : decode cX5_walk 44 = .ok (.irem, 1) := by decide +kernel
theorem dX5_walk_45 : decode cX5_walk 45 = .ok (.iconst 1, 1) := by decide +kernel
theorem dX5_walk_46 : decode cX5_walk 46 = .ok (.if_icmp .ne 7, 3) := by decide +kernel
theorem dX5_walk_49 : decode cX5_walk 49 = .ok (.iconst 1, 1) := by decide +kernel
theorem dX5_walk_50 : decode cX5_walk 50 = .ok (.goto 4, 3) := by decide +kernel
theorem dX5_walk_53 : decode cX5_walk 53 = .ok (.iconst 0, 1) := by decide +kernel
theorem dX5_walk_54 : decode cX5_walk 54 = .ok (.istore 4, 2) := by decide +kernel
theorem dX5_walk_56 : decode cX5_walk 56 = .ok (.iload_n 3, 1) := by decide +kernel
theorem dX5_walk_57 : decode cX5_walk 57 = .ok (.ifCond .lt 42, 3) := by decide +kernel
theorem dX5_walk_60 : decode cX5_walk 60 = .ok (.iload 4, 2) := by decide +kernel
theorem dX5_walk_62 : decode cX5_walk 62 = .ok (.ifCond .eq 25, 3) := by decide +kernel
theorem dX5_walk_65 : decode cX5_walk 65 = .ok (.aload_n 0, 1) := by decide +kernel
theorem dX5_walk_66 : decode cX5_walk 66 = .ok (.getfield 38, 3) := by decide +kernel
theorem dX5_walk_69 : decode cX5_walk 69 = .ok (.iload_n 3, 1) := by decide +kernel
theorem dX5_walk_70 : decode cX5_walk 70 = .ok (.baload, 1) := by decide +kernel
theorem dX5_walk_71 : decode cX5_walk 71 = .ok (.ifCond .ne 16, 3) := by decide +kernel
theorem dX5_walk_74 : decode cX5_walk 74 = .ok (.aload_n 0, 1) := by decide +kernel
theorem dX5_walk_75 : decode cX5_walk 75 = .ok (.getfield 32, 3) := by decide +kernel
theorem dX5_walk_78 : decode cX5_walk 78 = .ok (.iload_n 3, 1) := by decide +kernel
theorem dX5_walk_79 : decode cX5_walk 79 = .ok (.iaload, 1) := by decide +kernel
theorem dX5_walk_80 : decode cX5_walk 80 = .ok (.iload_n 2, 1) := by decide +kernel
theorem dX5_walk_81 : decode cX5_walk 81 = .ok (.invokestatic 113, 3) := by decide +kernel
theorem dX5_walk_84 : decode cX5_walk 84 = .ok (.ifCond .ne 15, 3) := by decide +kernel
theorem dX5_walk_87 : decode cX5_walk 87 = .ok (.aload_n 0, 1) := by decide +kernel
theorem dX5_walk_88 : decode cX5_walk 88 = .ok (.aload_n 0, 1) := by decide +kernel
theorem dX5_walk_89 : decode cX5_walk 89 = .ok (.iload_n 3, 1) := by decide +kernel
theorem dX5_walk_90 : decode cX5_walk 90 = .ok (.iload_n 1, 1) := by decide +kernel
theorem dX5_walk_91 : decode cX5_walk 91 = .ok (.iload_n 2, 1) := by decide +kernel
theorem dX5_walk_92 : decode cX5_walk 92 = .ok (.invokevirtual 160, 3) := by decide +kernel
theorem dX5_walk_95 : decode cX5_walk 95 = .ok (.invokevirtual 163, 3) := by decide +kernel
theorem dX5_walk_98 : decode cX5_walk 98 = .ok (.ireturn, 1) := by decide +kernel
theorem dX5_walk_99 : decode cX5_walk 99 = .ok (.aload_n 0, 1) := by decide +kernel
theorem dX5_walk_100 : decode cX5_walk 100 = .ok (.dup, 1) := by decide +kernel
theorem dX5_walk_101 : decode cX5_walk 101 = .ok (.getfield 167, 3) := by decide +kernel
theorem dX5_walk_104 : decode cX5_walk 104 = .ok (.iconst 1, 1) := by decide +kernel
theorem dX5_walk_105 : decode cX5_walk 105 = .ok (.iadd, 1) := by decide +kernel
theorem dX5_walk_106 : decode cX5_walk 106 = .ok (.putfield 167, 3) := by decide +kernel
theorem dX5_walk_109 : decode cX5_walk 109 = .ok (.aload_n 0, 1) := by decide +kernel
theorem dX5_walk_110 : decode cX5_walk 110 = .ok (.iload_n 1, 1) := by decide +kernel
theorem dX5_walk_111 : decode cX5_walk 111 = .ok (.iload_n 2, 1) := by decide +kernel
theorem dX5_walk_112 : decode cX5_walk 112 = .ok (.invokevirtual 170, 3) := by decide +kernel
theorem dX5_walk_115 : decode cX5_walk 115 = .ok (.istore 5, 2) := by decide +kernel
theorem dX5_walk_117 : decode cX5_walk 117 = .ok (.aload_n 0, 1) := by decide +kernel
theorem dX5_walk_118 : decode cX5_walk 118 = .ok (.dup, 1) := by decide +kernel
theorem dX5_walk_119 : decode cX5_walk 119 = .ok (.getfield 173, 3) := by decide +kernel
theorem dX5_walk_122 : decode cX5_walk 122 = .ok (.aload_n 0, 1) := by decide +kernel
theorem dX5_walk_123 : decode cX5_walk 123 = .ok (.getfield 101, 3) := by decide +kernel
theorem dX5_walk_126 : decode cX5_walk 126 = .ok (.iadd, 1) := by decide +kernel
theorem dX5_walk_127 : decode cX5_walk 127 = .ok (.putfield 173, 3) := by decide +kernel
theorem dX5_walk_130 : decode cX5_walk 130 = .ok (.iload 5, 2) := by decide +kernel
theorem dX5_walk_132 : decode cX5_walk 132 = .ok (.ifCond .eq 13, 3) := by decide +kernel
theorem dX5_walk_135 : decode cX5_walk 135 = .ok (.aload_n 0, 1) := by decide +kernel
theorem dX5_walk_136 : decode cX5_walk 136 = .ok (.iload_n 2, 1) := by decide +kernel
theorem dX5_walk_137 : decode cX5_walk 137 = .ok (.invokevirtual 176, 3) := by decide +kernel
theorem dX5_walk_140 : decode cX5_walk 140 = .ok (.aload_n 0, 1) := by decide +kernel
theorem dX5_walk_141 : decode cX5_walk 141 = .ok (.iload_n 1, 1) := by decide +kernel
theorem dX5_walk_142 : decode cX5_walk 142 = .ok (.invokevirtual 179, 3) := by decide +kernel
theorem dX5_walk_145 : decode cX5_walk 145 = .ok (.aload_n 0, 1) := by decide +kernel
theorem dX5_walk_146 : decode cX5_walk 146 = .ok (.iload 5, 2) := by decide +kernel
theorem dX5_walk_148 : decode cX5_walk 148 = .ok (.invokevirtual 163, 3) := by decide +kernel
theorem dX5_walk_151 : decode cX5_walk 151 = .ok (.ireturn, 1) := by decide +kernel
theorem dX5_to_0 : decode cX5_to 0 = .ok (.aload_n 0, 1) := by decide +kernel
theorem dX5_to_1 : decode cX5_to 1 = .ok (.iconst 0, 1) := by decide +kernel
theorem dX5_to_2 : decode cX5_to 2 = .ok (.putfield 58, 3) := by decide +kernel
theorem dX5_to_5 : decode cX5_to 5 = .ok (.aload_n 0, 1) := by decide +kernel
theorem dX5_to_6 : decode cX5_to 6 = .ok (.getfield 42, 3) := by decide +kernel
theorem dX5_to_9 : decode cX5_to 9 = .ok (.ireturn, 1) := by decide +kernel
theorem dX5_level_0 : decode cX5_level 0 = .ok (.aload_n 0, 1) := by decide +kernel
theorem dX5_level_1 : decode cX5_level 1 = .ok (.iconst 0, 1) := by decide +kernel
theorem dX5_level_2 : decode cX5_level 2 = .ok (.putfield 58, 3) := by decide +kernel
theorem dX5_level_5 : decode cX5_level 5 = .ok (.aload_n 0, 1) := by decide +kernel
theorem dX5_level_6 : decode cX5_level 6 = .ok (.getfield 46, 3) := by decide +kernel
theorem dX5_level_9 : decode cX5_level 9 = .ok (.ireturn, 1) := by decide +kernel
theorem dX5_plain_0 : decode cX5_plain 0 = .ok (.aload_n 0, 1) := by decide +kernel
theorem dX5_plain_1 : decode cX5_plain 1 = .ok (.iload_n 2, 1) := by decide +kernel
theorem dX5_plain_2 : decode cX5_plain 2 = .ok (.bipush 6, 2) := by decide +kernel
theorem dX5_plain_4 : decode cX5_plain 4 = .ok (.invokestatic 61, 3) := by decide +kernel
theorem dX5_plain_7 : decode cX5_plain 7 = .ok (.ifCond .ne 7, 3) := by decide +kernel
theorem dX5_plain_10 : decode cX5_plain 10 = .ok (.iconst 1, 1) := by decide +kernel
theorem dX5_plain_11 : decode cX5_plain 11 = .ok (.goto 4, 3) := by decide +kernel
theorem dX5_plain_14 : decode cX5_plain 14 = .ok (.iconst 0, 1) := by decide +kernel
theorem dX5_plain_15 : decode cX5_plain 15 = .ok (.iconst 0, 1) := by decide +kernel
theorem dX5_plain_16 : decode cX5_plain 16 = .ok (.invokevirtual 65, 3) := by decide +kernel
theorem dX5_plain_19 : decode cX5_plain 19 = .ok (.ifCond .eq 5, 3) := by decide +kernel
theorem dX5_plain_22 : decode cX5_plain 22 = .ok (.iconst 0, 1) := by decide +kernel
theorem dX5_plain_23 : decode cX5_plain 23 = .ok (.ireturn, 1) := by decide +kernel
theorem dX5_plain_24 : decode cX5_plain 24 = .ok (.aload_n 0, 1) := by decide +kernel
theorem dX5_plain_25 : decode cX5_plain 25 = .ok (.iload_n 1, 1) := by decide +kernel
theorem dX5_plain_26 : decode cX5_plain 26 = .ok (.iload_n 2, 1) := by decide +kernel
theorem dX5_plain_27 : decode cX5_plain 27 = .ok (.invokevirtual 170, 3) := by decide +kernel
theorem dX5_plain_30 : decode cX5_plain 30 = .ok (.ifCond .eq 10, 3) := by decide +kernel
theorem dX5_plain_33 : decode cX5_plain 33 = .ok (.aload_n 0, 1) := by decide +kernel
theorem dX5_plain_34 : decode cX5_plain 34 = .ok (.getfield 95, 3) := by decide +kernel
theorem dX5_plain_37 : decode cX5_plain 37 = .ok (.goto 8, 3) := by decide +kernel
theorem dX5_plain_40 : decode cX5_plain 40 = .ok (.aload_n 0, 1) := by decide +kernel
theorem dX5_plain_41 : decode cX5_plain 41 = .ok (.getfield 78, 3) := by decide +kernel
theorem dX5_plain_44 : decode cX5_plain 44 = .ok (.ineg, 1) := by decide +kernel
theorem dX5_plain_45 : decode cX5_plain 45 = .ok (.ireturn, 1) := by decide +kernel
theorem dX5_flush_0 : decode cX5_flush 0 = .ok (.aload_n 0, 1) := by decide +kernel
theorem dX5_flush_1 : decode cX5_flush 1 = .ok (.iload_n 1, 1) := by decide +kernel
theorem dX5_flush_2 : decode cX5_flush 2 = .ok (.iconst 3, 1) := by decide +kernel
theorem dX5_flush_3 : decode cX5_flush 3 = .ok (.invokestatic 61, 3) := by decide +kernel
theorem dX5_flush_6 : decode cX5_flush 6 = .ok (.ifCond .ne 7, 3) := by decide +kernel
theorem dX5_flush_9 : decode cX5_flush 9 = .ok (.iconst 1, 1) := by decide +kernel
theorem dX5_flush_10 : decode cX5_flush 10 = .ok (.goto 4, 3) := by decide +kernel
theorem dX5_flush_13 : decode cX5_flush 13 = .ok (.iconst 0, 1) := by decide +kernel
theorem dX5_flush_14 : decode cX5_flush 14 = .ok (.iconst 0, 1) := by decide +kernel
theorem dX5_flush_15 : decode cX5_flush 15 = .ok (.invokevirtual 65, 3) := by decide +kernel
theorem dX5_flush_18 : decode cX5_flush 18 = .ok (.ifCond .eq 5, 3) := by decide +kernel
theorem dX5_flush_21 : decode cX5_flush 21 = .ok (.iconst 0, 1) := by decide +kernel
theorem dX5_flush_22 : decode cX5_flush 22 = .ok (.ireturn, 1) := by decide +kernel
theorem dX5_flush_23 : decode cX5_flush 23 = .ok (.iconst 0, 1) := by decide +kernel
theorem dX5_flush_24 : decode cX5_flush 24 = .ok (.istore_n 3, 1) := by decide +kernel
theorem dX5_flush_25 : decode cX5_flush 25 = .ok (.aload_n 0, 1) := by decide +kernel
theorem dX5_flush_26 : decode cX5_flush 26 = .ok (.getfield 128, 3) := by decide +kernel
theorem dX5_flush_29 : decode cX5_flush 29 = .ok (.iconst 1, 1) := by decide +kernel
theorem dX5_flush_30 : decode cX5_flush 30 = .ok (.isub, 1) := by decide +kernel
theorem dX5_flush_31 : decode cX5_flush 31 = .ok (.istore 4, 2) := by decide +kernel
theorem dX5_flush_33 : decode cX5_flush 33 = .ok (.iload 4, 2) := by decide +kernel
theorem dX5_flush_35 : decode cX5_flush 35 = .ok (.ifCond .lt 55, 3) := by decide +kernel
theorem dX5_flush_38 : decode cX5_flush 38 = .ok (.iload_n 1, 1) := by decide +kernel
theorem dX5_flush_39 : decode cX5_flush 39 = .ok (.iconst 1, 1) := by decide +kernel
theorem dX5_flush_40 : decode cX5_flush 40 = .ok (.if_icmp .ne 17, 3) := by decide +kernel
theorem dX5_flush_43 : decode cX5_flush 43 = .ok (.aload_n 0, 1) := by decide +kernel
theorem dX5_flush_44 : decode cX5_flush 44 = .ok (.getfield 20, 3) := by decide +kernel
theorem dX5_flush_47 : decode cX5_flush 47 = .ok (.iload 4, 2) := by decide +kernel
theorem dX5_flush_49 : decode cX5_flush 49 = .ok (.iaload, 1) := by decide +kernel
theorem dX5_flush_50 : decode cX5_flush 50 = .ok (.aload_n 0, 1) := by decide +kernel
theorem dX5_flush_51 : decode cX5_flush 51 = .ok (.getfield 69, 3) := by decide +kernel
theorem dX5_flush_54 : decode cX5_flush 54 = .ok (.if_icmp .ne 30, 3) := by decide +kernel
theorem dX5_flush_57 : decode cX5_flush 57 = .ok (.iload_n 1, 1) := by decide +kernel
theorem dX5_flush_58 : decode cX5_flush 58 = .ok (.iconst 2, 1) := by decide +kernel
theorem dX5_flush_59 : decode cX5_flush 59 = .ok (.if_icmp .ne 16, 3) := by decide +kernel
theorem dX5_flush_62 : decode cX5_flush 62 = .ok (.aload_n 0, 1) := by decide +kernel
theorem dX5_flush_63 : decode cX5_flush 63 = .ok (.iload 4, 2) := by decide +kernel
theorem dX5_flush_65 : decode cX5_flush 65 = .ok (.iload_n 2, 1) := by decide +kernel
theorem dX5_flush_66 : decode cX5_flush 66 = .ok (.invokevirtual 131, 3) := by decide +kernel
theorem dX5_flush_69 : decode cX5_flush 69 = .ok (.ifCond .ne 6, 3) := by decide +kernel
theorem dX5_flush_72 : decode cX5_flush 72 = .ok (.goto 12, 3) := by decide +kernel
theorem dX5_flush_75 : decode cX5_flush 75 = .ok (.aload_n 0, 1) := by decide +kernel
theorem dX5_flush_76 : decode cX5_flush 76 = .ok (.iload 4, 2) := by decide +kernel
theorem dX5_flush_78 : decode cX5_flush 78 = .ok (.invokevirtual 137, 3) := by decide +kernel
theorem dX5_flush_81 : decode cX5_flush 81 = .ok (.iinc 3 1, 3) := by decide +kernel
theorem dX5_flush_84 : decode cX5_flush 84 = .ok (.iinc 4 (-1), 3) := by decide +kernel
theorem dX5_flush_87 : decode cX5_flush 87 = .ok (.goto (-54), 3) := by decide +kernel
theorem dX5_flush_90 : decode cX5_flush 90 = .ok (.iload_n 3, 1) := by decide +kernel
theorem dX5_flush_91 : decode cX5_flush 91 = .ok (.ireturn, 1) := by decide +kernel
theorem dX5_inOrder_0 : decode cX5_inOrder 0 = .ok (.iconst 0, 1) := by decide +kernel
theorem dX5_inOrder_1 : decode cX5_inOrder 1 = .ok (.istore_n 2, 1) := by decide +kernel
theorem dX5_inOrder_2 : decode cX5_inOrder 2 = .ok (.iload_n 2, 1) := by decide +kernel
theorem dX5_inOrder_3 : decode cX5_inOrder 3 = .ok (.aload_n 0, 1) := by decide +kernel
theorem dX5_inOrder_4 : decode cX5_inOrder 4 = .ok (.getfield 128, 3) := by decide +kernel
theorem dX5_inOrder_7 : decode cX5_inOrder 7 = .ok (.if_icmp .ge 60, 3) := by decide +kernel
theorem dX5_inOrder_10 : decode cX5_inOrder 10 = .ok (.iconst 0, 1) := by decide +kernel
theorem dX5_inOrder_11 : decode cX5_inOrder 11 = .ok (.istore_n 3, 1) := by decide +kernel
theorem dX5_inOrder_12 : decode cX5_inOrder 12 = .ok (.iconst 0, 1) := by decide +kernel
theorem dX5_inOrder_13 : decode cX5_inOrder 13 = .ok (.istore 4, 2) := by decide +kernel
theorem dX5_inOrder_15 : decode cX5_inOrder 15 = .ok (.iload 4, 2) := by decide +kernel
theorem dX5_inOrder_17 : decode cX5_inOrder 17 = .ok (.aload_n 0, 1) := by decide +kernel
theorem dX5_inOrder_18 : decode cX5_inOrder 18 = .ok (.getfield 128, 3) := by decide +kernel
theorem dX5_inOrder_21 : decode cX5_inOrder 21 = .ok (.if_icmp .ge 33, 3) := by decide +kernel
theorem dX5_inOrder_24 : decode cX5_inOrder 24 = .ok (.iload_n 3, 1) := by decide +kernel
theorem dX5_inOrder_25 : decode cX5_inOrder 25 = .ok (.aload_n 0, 1) := by decide +kernel
theorem dX5_inOrder_26 : decode cX5_inOrder 26 = .ok (.getfield 35, 3) := by decide +kernel
theorem dX5_inOrder_29 : decode cX5_inOrder 29 = .ok (.iload 4, 2) := by decide +kernel
theorem dX5_inOrder_31 : decode cX5_inOrder 31 = .ok (.iaload, 1) := by decide +kernel
theorem dX5_inOrder_32 : decode cX5_inOrder 32 = .ok (.aload_n 0, 1) := by decide +kernel
theorem dX5_inOrder_33 : decode cX5_inOrder 33 = .ok (.getfield 35, 3) := by decide +kernel
theorem dX5_inOrder_36 : decode cX5_inOrder 36 = .ok (.iload_n 2, 1) := by decide +kernel
theorem dX5_inOrder_37 : decode cX5_inOrder 37 = .ok (.iaload, 1) := by decide +kernel
theorem dX5_inOrder_38 : decode cX5_inOrder 38 = .ok (.if_icmp .le 7, 3) := by decide +kernel
theorem dX5_inOrder_41 : decode cX5_inOrder 41 = .ok (.iconst 1, 1) := by decide +kernel
theorem dX5_inOrder_42 : decode cX5_inOrder 42 = .ok (.goto 4, 3) := by decide +kernel
theorem dX5_inOrder_45 : decode cX5_inOrder 45 = .ok (.iconst 0, 1) := by decide +kernel
theorem dX5_inOrder_46 : decode cX5_inOrder 46 = .ok (.iadd, 1) := by decide +kernel
theorem dX5_inOrder_47 : decode cX5_inOrder 47 = .ok (.istore_n 3, 1) := by decide +kernel
theorem dX5_inOrder_48 : decode cX5_inOrder 48 = .ok (.iinc 4 1, 3) := by decide +kernel
theorem dX5_inOrder_51 : decode cX5_inOrder 51 = .ok (.goto (-36), 3) := by decide +kernel
theorem dX5_inOrder_54 : decode cX5_inOrder 54 = .ok (.iload_n 3, 1) := by decide +kernel
theorem dX5_inOrder_55 : decode cX5_inOrder 55 = .ok (.iload_n 1, 1) := by decide +kernel
theorem dX5_inOrder_56 : decode cX5_inOrder 56 = .ok (.if_icmp .ne 5, 3) := by decide +kernel
theorem dX5_inOrder_59 : decode cX5_inOrder 59 = .ok (.iload_n 2, 1) := by decide +kernel
theorem dX5_inOrder_60 : decode cX5_inOrder 60 = .ok (.ireturn, 1) := by decide +kernel
theorem dX5_inOrder_61 : decode cX5_inOrder 61 = .ok (.iinc 2 1, 3) := by decide +kernel
theorem dX5_inOrder_64 : decode cX5_inOrder 64 = .ok (.goto (-62), 3) := by decide +kernel
theorem dX5_inOrder_67 : decode cX5_inOrder 67 = .ok (.iconst (-1), 1) := by decide +kernel
theorem dX5_inOrder_68 : decode cX5_inOrder 68 = .ok (.ireturn, 1) := by decide +kernel
theorem dX5_kept_0 : decode cX5_kept 0 = .ok (.aload_n 0, 1) := by decide +kernel
theorem dX5_kept_1 : decode cX5_kept 1 = .ok (.iload_n 1, 1) := by decide +kernel
theorem dX5_kept_2 : decode cX5_kept 2 = .ok (.aload_n 0, 1) := by decide +kernel
theorem dX5_kept_3 : decode cX5_kept 3 = .ok (.getfield 128, 3) := by decide +kernel
theorem dX5_kept_6 : decode cX5_kept 6 = .ok (.invokestatic 61, 3) := by decide +kernel
theorem dX5_kept_9 : decode cX5_kept 9 = .ok (.ifCond .eq 12, 3) := by decide +kernel
theorem dX5_kept_12 : decode cX5_kept 12 = .ok (.iload_n 2, 1) := by decide +kernel
theorem dX5_kept_13 : decode cX5_kept 13 = .ok (.bipush 6, 2) := by decide +kernel
theorem dX5_kept_15 : decode cX5_kept 15 = .ok (.invokestatic 61, 3) := by decide +kernel
theorem dX5_kept_18 : decode cX5_kept 18 = .ok (.ifCond .ne 7, 3) := by decide +kernel
theorem dX5_kept_21 : decode cX5_kept 21 = .ok (.iconst 1, 1) := by decide +kernel
theorem dX5_kept_22 : decode cX5_kept 22 = .ok (.goto 4, 3) := by decide +kernel
theorem dX5_kept_25 : decode cX5_kept 25 = .ok (.iconst 0, 1) := by decide +kernel
theorem dX5_kept_26 : decode cX5_kept 26 = .ok (.iconst 0, 1) := by decide +kernel
theorem dX5_kept_27 : decode cX5_kept 27 = .ok (.invokevirtual 65, 3) := by decide +kernel
theorem dX5_kept_30 : decode cX5_kept 30 = .ok (.ifCond .eq 5, 3) := by decide +kernel
theorem dX5_kept_33 : decode cX5_kept 33 = .ok (.iconst 0, 1) := by decide +kernel
theorem dX5_kept_34 : decode cX5_kept 34 = .ok (.ireturn, 1) := by decide +kernel
theorem dX5_kept_35 : decode cX5_kept 35 = .ok (.aload_n 0, 1) := by decide +kernel
theorem dX5_kept_36 : decode cX5_kept 36 = .ok (.iload_n 1, 1) := by decide +kernel
theorem dX5_kept_37 : decode cX5_kept 37 = .ok (.invokevirtual 182, 3) := by decide +kernel
theorem dX5_kept_40 : decode cX5_kept 40 = .ok (.istore_n 3, 1) := by decide +kernel
theorem dX5_kept_41 : decode cX5_kept 41 = .ok (.iload_n 2, 1) := by decide +kernel
theorem dX5_kept_42 : decode cX5_kept 42 = .ok (.tableswitch 69 0 4 #[34, 41, 48, 55, 62], 34) := by decide +kernel
theorem dX5_kept_76 : decode cX5_kept 76 = .ok (.aload_n 0, 1) := by decide +kernel
theorem dX5_kept_77 : decode cX5_kept 77 = .ok (.getfield 20, 3) := by decide +kernel
theorem dX5_kept_80 : decode cX5_kept 80 = .ok (.iload_n 3, 1) := by decide +kernel
theorem dX5_kept_81 : decode cX5_kept 81 = .ok (.iaload, 1) := by decide +kernel
theorem dX5_kept_82 : decode cX5_kept 82 = .ok (.ireturn, 1) := by decide +kernel
theorem dX5_kept_83 : decode cX5_kept 83 = .ok (.aload_n 0, 1) := by decide +kernel
theorem dX5_kept_84 : decode cX5_kept 84 = .ok (.getfield 23, 3) := by decide +kernel
theorem dX5_kept_87 : decode cX5_kept 87 = .ok (.iload_n 3, 1) := by decide +kernel
theorem dX5_kept_88 : decode cX5_kept 88 = .ok (.iaload, 1) := by decide +kernel
theorem dX5_kept_89 : decode cX5_kept 89 = .ok (.ireturn, 1) := by decide +kernel
theorem dX5_kept_90 : decode cX5_kept 90 = .ok (.aload_n 0, 1) := by decide +kernel
theorem dX5_kept_91 : decode cX5_kept 91 = .ok (.getfield 26, 3) := by decide +kernel
theorem dX5_kept_94 : decode cX5_kept 94 = .ok (.iload_n 3, 1) := by decide +kernel
theorem dX5_kept_95 : decode cX5_kept 95 = .ok (.iaload, 1) := by decide +kernel
theorem dX5_kept_96 : decode cX5_kept 96 = .ok (.ireturn, 1) := by decide +kernel
theorem dX5_kept_97 : decode cX5_kept 97 = .ok (.aload_n 0, 1) := by decide +kernel
theorem dX5_kept_98 : decode cX5_kept 98 = .ok (.getfield 29, 3) := by decide +kernel
theorem dX5_kept_101 : decode cX5_kept 101 = .ok (.iload_n 3, 1) := by decide +kernel
theorem dX5_kept_102 : decode cX5_kept 102 = .ok (.iaload, 1) := by decide +kernel
theorem dX5_kept_103 : decode cX5_kept 103 = .ok (.ireturn, 1) := by decide +kernel
theorem dX5_kept_104 : decode cX5_kept 104 = .ok (.aload_n 0, 1) := by decide +kernel
theorem dX5_kept_105 : decode cX5_kept 105 = .ok (.getfield 32, 3) := by decide +kernel
theorem dX5_kept_108 : decode cX5_kept 108 = .ok (.iload_n 3, 1) := by decide +kernel
theorem dX5_kept_109 : decode cX5_kept 109 = .ok (.iaload, 1) := by decide +kernel
theorem dX5_kept_110 : decode cX5_kept 110 = .ok (.ireturn, 1) := by decide +kernel
theorem dX5_kept_111 : decode cX5_kept 111 = .ok (.aload_n 0, 1) := by decide +kernel
theorem dX5_kept_112 : decode cX5_kept 112 = .ok (.getfield 38, 3) := by decide +kernel
theorem dX5_kept_115 : decode cX5_kept 115 = .ok (.iload_n 3, 1) := by decide +kernel
theorem dX5_kept_116 : decode cX5_kept 116 = .ok (.baload, 1) := by decide +kernel
theorem dX5_kept_117 : decode cX5_kept 117 = .ok (.ifCond .eq 7, 3) := by decide +kernel
theorem dX5_kept_120 : decode cX5_kept 120 = .ok (.iconst 1, 1) := by decide +kernel
theorem dX5_kept_121 : decode cX5_kept 121 = .ok (.goto 4, 3) := by decide +kernel
theorem dX5_kept_124 : decode cX5_kept 124 = .ok (.iconst 0, 1) := by decide +kernel
theorem dX5_kept_125 : decode cX5_kept 125 = .ok (.ireturn, 1) := by decide +kernel
theorem dX5_isStale_0 : decode cX5_isStale 0 = .ok (.aload_n 0, 1) := by decide +kernel
theorem dX5_isStale_1 : decode cX5_isStale 1 = .ok (.getfield 26, 3) := by decide +kernel
theorem dX5_isStale_4 : decode cX5_isStale 4 = .ok (.iload_n 1, 1) := by decide +kernel
theorem dX5_isStale_5 : decode cX5_isStale 5 = .ok (.iaload, 1) := by decide +kernel
theorem dX5_isStale_6 : decode cX5_isStale 6 = .ok (.bipush 8, 2) := by decide +kernel
theorem dX5_isStale_8 : decode cX5_isStale 8 = .ok (.iconst 4, 1) := by decide +kernel
theorem dX5_isStale_9 : decode cX5_isStale 9 = .ok (.aload_n 0, 1) := by decide +kernel
theorem dX5_isStale_10 : decode cX5_isStale 10 = .ok (.getfield 23, 3) := by decide +kernel
theorem dX5_isStale_13 : decode cX5_isStale 13 = .ok (.iload_n 1, 1) := by decide +kernel
theorem dX5_isStale_14 : decode cX5_isStale 14 = .ok (.iaload, 1) := by decide +kernel
theorem dX5_isStale_15 : decode cX5_isStale 15 = .ok (.imul, 1) := by decide +kernel
theorem dX5_isStale_16 : decode cX5_isStale 16 = .ok (.iadd, 1) := by decide +kernel
theorem dX5_isStale_17 : decode cX5_isStale 17 = .ok (.ishl, 1) := by decide +kernel
theorem dX5_isStale_18 : decode cX5_isStale 18 = .ok (.istore_n 3, 1) := by decide +kernel
theorem dX5_isStale_19 : decode cX5_isStale 19 = .ok (.aload_n 0, 1) := by decide +kernel
theorem dX5_isStale_20 : decode cX5_isStale 20 = .ok (.iload_n 3, 1) := by decide +kernel
theorem dX5_isStale_21 : decode cX5_isStale 21 = .ok (.iload_n 2, 1) := by decide +kernel
theorem dX5_isStale_22 : decode cX5_isStale 22 = .ok (.invokevirtual 170, 3) := by decide +kernel
theorem dX5_isStale_25 : decode cX5_isStale 25 = .ok (.istore 4, 2) := by decide +kernel
theorem dX5_isStale_27 : decode cX5_isStale 27 = .ok (.aload_n 0, 1) := by decide +kernel
theorem dX5_isStale_28 : decode cX5_isStale 28 = .ok (.getfield 95, 3) := by decide +kernel
theorem dX5_isStale_31 : decode cX5_isStale 31 = .ok (.istore 5, 2) := by decide +kernel
theorem dX5_isStale_33 : decode cX5_isStale 33 = .ok (.aload_n 0, 1) := by decide +kernel
theorem dX5_isStale_34 : decode cX5_isStale 34 = .ok (.getfield 32, 3) := by decide +kernel
theorem dX5_isStale_37 : decode cX5_isStale 37 = .ok (.iload_n 1, 1) := by decide +kernel
theorem dX5_isStale_38 : decode cX5_isStale 38 = .ok (.iaload, 1) := by decide +kernel
theorem dX5_isStale_39 : decode cX5_isStale 39 = .ok (.iload_n 2, 1) := by decide +kernel
theorem dX5_isStale_40 : decode cX5_isStale 40 = .ok (.invokestatic 113, 3) := by decide +kernel
theorem dX5_isStale_43 : decode cX5_isStale 43 = .ok (.ifCond .eq 27, 3) := by decide +kernel
theorem dX5_isStale_46 : decode cX5_isStale 46 = .ok (.aload_n 0, 1) := by decide +kernel
theorem dX5_isStale_47 : decode cX5_isStale 47 = .ok (.aload_n 0, 1) := by decide +kernel
theorem dX5_isStale_48 : decode cX5_isStale 48 = .ok (.getfield 29, 3) := by decide +kernel
theorem dX5_isStale_51 : decode cX5_isStale 51 = .ok (.iload_n 1, 1) := by decide +kernel
theorem dX5_isStale_52 : decode cX5_isStale 52 = .ok (.iaload, 1) := by decide +kernel
theorem dX5_isStale_53 : decode cX5_isStale 53 = .ok (.aload_n 0, 1) := by decide +kernel
theorem dX5_isStale_54 : decode cX5_isStale 54 = .ok (.getfield 23, 3) := by decide +kernel
theorem dX5_isStale_57 : decode cX5_isStale 57 = .ok (.iload_n 1, 1) := by decide +kernel
theorem dX5_isStale_58 : decode cX5_isStale 58 = .ok (.iaload, 1) := by decide +kernel
theorem dX5_isStale_59 : decode cX5_isStale 59 = .ok (.iload_n 3, 1) := by decide +kernel
theorem dX5_isStale_60 : decode cX5_isStale 60 = .ok (.invokevirtual 124, 3) := by decide +kernel
theorem dX5_isStale_63 : decode cX5_isStale 63 = .ok (.ifCond .eq 7, 3) := by decide +kernel
theorem dX5_isStale_66 : decode cX5_isStale 66 = .ok (.iconst 1, 1) := by decide +kernel
theorem dX5_isStale_67 : decode cX5_isStale 67 = .ok (.goto 4, 3) := by decide +kernel
theorem dX5_isStale_70 : decode cX5_isStale 70 = .ok (.iconst 0, 1) := by decide +kernel
theorem dX5_isStale_71 : decode cX5_isStale 71 = .ok (.istore 6, 2) := by decide +kernel
theorem dX5_isStale_73 : decode cX5_isStale 73 = .ok (.iload 4, 2) := by decide +kernel
theorem dX5_isStale_75 : decode cX5_isStale 75 = .ok (.iload 6, 2) := by decide +kernel
theorem dX5_isStale_77 : decode cX5_isStale 77 = .ok (.if_icmp .ne 17, 3) := by decide +kernel
theorem dX5_isStale_80 : decode cX5_isStale 80 = .ok (.iload 4, 2) := by decide +kernel
theorem dX5_isStale_82 : decode cX5_isStale 82 = .ok (.ifCond .eq 16, 3) := by decide +kernel
theorem dX5_isStale_85 : decode cX5_isStale 85 = .ok (.iload 5, 2) := by decide +kernel
theorem dX5_isStale_87 : decode cX5_isStale 87 = .ok (.aload_n 0, 1) := by decide +kernel
theorem dX5_isStale_88 : decode cX5_isStale 88 = .ok (.getfield 95, 3) := by decide +kernel
theorem dX5_isStale_91 : decode cX5_isStale 91 = .ok (.if_icmp .eq 7, 3) := by decide +kernel
theorem dX5_isStale_94 : decode cX5_isStale 94 = .ok (.iconst 1, 1) := by decide +kernel
theorem dX5_isStale_95 : decode cX5_isStale 95 = .ok (.goto 4, 3) := by decide +kernel
theorem dX5_isStale_98 : decode cX5_isStale 98 = .ok (.iconst 0, 1) := by decide +kernel
theorem dX5_isStale_99 : decode cX5_isStale 99 = .ok (.ireturn, 1) := by decide +kernel
theorem dX5_stale_0 : decode cX5_stale 0 = .ok (.aload_n 0, 1) := by decide +kernel
theorem dX5_stale_1 : decode cX5_stale 1 = .ok (.iload_n 1, 1) := by decide +kernel
theorem dX5_stale_2 : decode cX5_stale 2 = .ok (.bipush 6, 2) := by decide +kernel
theorem dX5_stale_4 : decode cX5_stale 4 = .ok (.invokestatic 61, 3) := by decide +kernel
theorem dX5_stale_7 : decode cX5_stale 7 = .ok (.ifCond .ne 7, 3) := by decide +kernel
theorem dX5_stale_10 : decode cX5_stale 10 = .ok (.iconst 1, 1) := by decide +kernel
theorem dX5_stale_11 : decode cX5_stale 11 = .ok (.goto 4, 3) := by decide +kernel
theorem dX5_stale_14 : decode cX5_stale 14 = .ok (.iconst 0, 1) := by decide +kernel
theorem dX5_stale_15 : decode cX5_stale 15 = .ok (.iconst 0, 1) := by decide +kernel
theorem dX5_stale_16 : decode cX5_stale 16 = .ok (.invokevirtual 65, 3) := by decide +kernel
theorem dX5_stale_19 : decode cX5_stale 19 = .ok (.ifCond .eq 5, 3) := by decide +kernel
theorem dX5_stale_22 : decode cX5_stale 22 = .ok (.iconst 0, 1) := by decide +kernel
theorem dX5_stale_23 : decode cX5_stale 23 = .ok (.ireturn, 1) := by decide +kernel
theorem dX5_stale_24 : decode cX5_stale 24 = .ok (.iconst 0, 1) := by decide +kernel
theorem dX5_stale_25 : decode cX5_stale 25 = .ok (.istore_n 2, 1) := by decide +kernel
theorem dX5_stale_26 : decode cX5_stale 26 = .ok (.iconst 0, 1) := by decide +kernel
theorem dX5_stale_27 : decode cX5_stale 27 = .ok (.istore_n 3, 1) := by decide +kernel
theorem dX5_stale_28 : decode cX5_stale 28 = .ok (.iload_n 3, 1) := by decide +kernel
theorem dX5_stale_29 : decode cX5_stale 29 = .ok (.aload_n 0, 1) := by decide +kernel
theorem dX5_stale_30 : decode cX5_stale 30 = .ok (.getfield 128, 3) := by decide +kernel
theorem dX5_stale_33 : decode cX5_stale 33 = .ok (.if_icmp .ge 39, 3) := by decide +kernel
theorem dX5_stale_36 : decode cX5_stale 36 = .ok (.iload_n 2, 1) := by decide +kernel
theorem dX5_stale_37 : decode cX5_stale 37 = .ok (.aload_n 0, 1) := by decide +kernel
theorem dX5_stale_38 : decode cX5_stale 38 = .ok (.getfield 20, 3) := by decide +kernel
theorem dX5_stale_41 : decode cX5_stale 41 = .ok (.iload_n 3, 1) := by decide +kernel
theorem dX5_stale_42 : decode cX5_stale 42 = .ok (.iaload, 1) := by decide +kernel
theorem dX5_stale_43 : decode cX5_stale 43 = .ok (.aload_n 0, 1) := by decide +kernel
theorem dX5_stale_44 : decode cX5_stale 44 = .ok (.getfield 69, 3) := by decide +kernel
theorem dX5_stale_47 : decode cX5_stale 47 = .ok (.if_icmp .ne 16, 3) := by decide +kernel
theorem dX5_stale_50 : decode cX5_stale 50 = .ok (.aload_n 0, 1) := by decide +kernel
theorem dX5_stale_51 : decode cX5_stale 51 = .ok (.iload_n 3, 1) := by decide +kernel
theorem dX5_stale_52 : decode cX5_stale 52 = .ok (.iload_n 1, 1) := by decide +kernel
theorem dX5_stale_53 : decode cX5_stale 53 = .ok (.invokevirtual 185, 3) := by decide +kernel
theorem dX5_stale_56 : decode cX5_stale 56 = .ok (.ifCond .eq 7, 3) := by decide +kernel
theorem dX5_stale_59 : decode cX5_stale 59 = .ok (.iconst 1, 1) := by decide +kernel
theorem dX5_stale_60 : decode cX5_stale 60 = .ok (.goto 4, 3) := by decide +kernel
theorem dX5_stale_63 : decode cX5_stale 63 = .ok (.iconst 0, 1) := by decide +kernel
theorem dX5_stale_64 : decode cX5_stale 64 = .ok (.iadd, 1) := by decide +kernel
theorem dX5_stale_65 : decode cX5_stale 65 = .ok (.istore_n 2, 1) := by decide +kernel
theorem dX5_stale_66 : decode cX5_stale 66 = .ok (.iinc 3 1, 3) := by decide +kernel
theorem dX5_stale_69 : decode cX5_stale 69 = .ok (.goto (-41), 3) := by decide +kernel
theorem dX5_stale_72 : decode cX5_stale 72 = .ok (.iload_n 2, 1) := by decide +kernel
theorem dX5_stale_73 : decode cX5_stale 73 = .ok (.ireturn, 1) := by decide +kernel
theorem dX5_count_0 : decode cX5_count 0 = .ok (.aload_n 0, 1) := by decide +kernel
theorem dX5_count_1 : decode cX5_count 1 = .ok (.iconst 0, 1) := by decide +kernel
theorem dX5_count_2 : decode cX5_count 2 = .ok (.putfield 58, 3) := by decide +kernel
theorem dX5_count_5 : decode cX5_count 5 = .ok (.iload_n 1, 1) := by decide +kernel
theorem dX5_count_6 : decode cX5_count 6 = .ok (.tableswitch 95 0 8 #[50, 55, 60, 65, 70, 75, 80, 85, 90], 50) := by decide +kernel
theorem dX5_count_56 : decode cX5_count 56 = .ok (.aload_n 0, 1) := by decide +kernel
theorem dX5_count_57 : decode cX5_count 57 = .ok (.getfield 52, 3) := by decide +kernel
theorem dX5_count_60 : decode cX5_count 60 = .ok (.ireturn, 1) := by decide +kernel
theorem dX5_count_61 : decode cX5_count 61 = .ok (.aload_n 0, 1) := by decide +kernel
theorem dX5_count_62 : decode cX5_count 62 = .ok (.getfield 55, 3) := by decide +kernel
theorem dX5_count_65 : decode cX5_count 65 = .ok (.ireturn, 1) := by decide +kernel
theorem dX5_count_66 : decode cX5_count 66 = .ok (.aload_n 0, 1) := by decide +kernel
theorem dX5_count_67 : decode cX5_count 67 = .ok (.getfield 128, 3) := by decide +kernel
theorem dX5_count_70 : decode cX5_count 70 = .ok (.ireturn, 1) := by decide +kernel
theorem dX5_count_71 : decode cX5_count 71 = .ok (.aload_n 0, 1) := by decide +kernel
theorem dX5_count_72 : decode cX5_count 72 = .ok (.getfield 69, 3) := by decide +kernel
theorem dX5_count_75 : decode cX5_count 75 = .ok (.ireturn, 1) := by decide +kernel
theorem dX5_count_76 : decode cX5_count 76 = .ok (.aload_n 0, 1) := by decide +kernel
theorem dX5_count_77 : decode cX5_count 77 = .ok (.getfield 173, 3) := by decide +kernel
theorem dX5_count_80 : decode cX5_count 80 = .ok (.ireturn, 1) := by decide +kernel
theorem dX5_count_81 : decode cX5_count 81 = .ok (.aload_n 0, 1) := by decide +kernel
theorem dX5_count_82 : decode cX5_count 82 = .ok (.getfield 154, 3) := by decide +kernel
theorem dX5_count_85 : decode cX5_count 85 = .ok (.ireturn, 1) := by decide +kernel
theorem dX5_count_86 : decode cX5_count 86 = .ok (.aload_n 0, 1) := by decide +kernel
theorem dX5_count_87 : decode cX5_count 87 = .ok (.getfield 167, 3) := by decide +kernel
theorem dX5_count_90 : decode cX5_count 90 = .ok (.ireturn, 1) := by decide +kernel
theorem dX5_count_91 : decode cX5_count 91 = .ok (.aload_n 0, 1) := by decide +kernel
theorem dX5_count_92 : decode cX5_count 92 = .ok (.getfield 151, 3) := by decide +kernel
theorem dX5_count_95 : decode cX5_count 95 = .ok (.ireturn, 1) := by decide +kernel
theorem dX5_count_96 : decode cX5_count 96 = .ok (.aload_n 0, 1) := by decide +kernel
theorem dX5_count_97 : decode cX5_count 97 = .ok (.getfield 141, 3) := by decide +kernel
theorem dX5_count_100 : decode cX5_count 100 = .ok (.ireturn, 1) := by decide +kernel
theorem dX5_count_101 : decode cX5_count 101 = .ok (.iconst (-1), 1) := by decide +kernel
theorem dX5_count_102 : decode cX5_count 102 = .ok (.ireturn, 1) := by decide +kernel
