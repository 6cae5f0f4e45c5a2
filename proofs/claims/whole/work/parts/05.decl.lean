theorem dL_cell_0 : decode cL_cell 0 = .ok (.iload_n 1, 1) := by decide +kernel
theorem dL_cell_1 : decode cL_cell 1 = .ok (.aload_n 0, 1) := by decide +kernel
theorem dL_cell_2 : decode cL_cell 2 = .ok (.arraylength, 1) := by decide +kernel
theorem dL_cell_3 : decode cL_cell 3 = .ok (.if_icmp .ge 9, 3) := by decide +kernel
theorem dL_cell_6 : decode cL_cell 6 = .ok (.aload_n 0, 1) := by decide +kernel
theorem dL_cell_7 : decode cL_cell 7 = .ok (.iload_n 1, 1) := by decide +kernel
theorem dL_cell_8 : decode cL_cell 8 = .ok (.iaload, 1) := by decide +kernel
theorem dL_cell_9 : decode cL_cell 9 = .ok (.goto 4, 3) := by decide +kernel
theorem dL_cell_12 : decode cL_cell 12 = .ok (.iconst 0, 1) := by decide +kernel
theorem dL_cell_13 : decode cL_cell 13 = .ok (.ireturn, 1) := by decide +kernel
theorem dL_table_0 : decode cL_table 0 = .ok (.aload 4, 2) := by decide +kernel
theorem dL_table_2 : decode cL_table 2 = .ok (.iconst 0, 1) := by decide +kernel
theorem dL_table_3 : decode cL_table 3 = .ok (.aload_n 0, 1) := by decide +kernel
theorem dL_table_4 : decode cL_table 4 = .ok (.iload_n 1, 1) := by decide +kernel
theorem dL_table_5 : decode cL_table 5 = .ok (.lload_n 2, 1) := by decide +kernel
theorem dL_table_6 : decode cL_table 6 = .ok (.invokevirtual 7, 3) := by decide +kernel
theorem dL_table_9 : decode cL_table 9 = .ok (.lastore, 1) := by decide +kernel
theorem dL_table_10 : decode cL_table 10 = .ok (.goto 7, 3) := by decide +kernel
theorem dL_table_13 : decode cL_table 13 = .ok (.astore 5, 2) := by decide +kernel
theorem dL_table_15 : decode cL_table 15 = .ok (.iconst 1, 1) := by decide +kernel
theorem dL_table_16 : decode cL_table 16 = .ok (.ireturn, 1) := by decide +kernel
theorem dL_table_17 : decode cL_table 17 = .ok (.iconst 0, 1) := by decide +kernel
theorem dL_table_18 : decode cL_table 18 = .ok (.ireturn, 1) := by decide +kernel
theorem dL_word_0 : decode cL_word 0 = .ok (.aload_n 2, 1) := by decide +kernel
theorem dL_word_1 : decode cL_word 1 = .ok (.iconst 0, 1) := by decide +kernel
theorem dL_word_2 : decode cL_word 2 = .ok (.aload_n 0, 1) := by decide +kernel
theorem dL_word_3 : decode cL_word 3 = .ok (.iload_n 1, 1) := by decide +kernel
theorem dL_word_4 : decode cL_word 4 = .ok (.invokevirtual 15, 3) := by decide +kernel
theorem dL_word_7 : decode cL_word 7 = .ok (.lastore, 1) := by decide +kernel
theorem dL_word_8 : decode cL_word 8 = .ok (.goto 6, 3) := by decide +kernel
theorem dL_word_11 : decode cL_word 11 = .ok (.astore_n 3, 1) := by decide +kernel
theorem dL_word_12 : decode cL_word 12 = .ok (.iconst 1, 1) := by decide +kernel
theorem dL_word_13 : decode cL_word 13 = .ok (.ireturn, 1) := by decide +kernel
theorem dL_word_14 : decode cL_word 14 = .ok (.iconst 0, 1) := by decide +kernel
theorem dL_word_15 : decode cL_word 15 = .ok (.ireturn, 1) := by decide +kernel
theorem dL_context_0 : decode cL_context 0 = .ok (.aload_n 2, 1) := by decide +kernel
theorem dL_context_1 : decode cL_context 1 = .ok (.iconst 0, 1) := by decide +kernel
theorem dL_context_2 : decode cL_context 2 = .ok (.aload_n 0, 1) := by decide +kernel
theorem dL_context_3 : decode cL_context 3 = .ok (.iload_n 1, 1) := by decide +kernel
theorem dL_context_4 : decode cL_context 4 = .ok (.invokevirtual 19, 3) := by decide +kernel
theorem dL_context_7 : decode cL_context 7 = .ok (.i2l, 1) := by decide +kernel
theorem dL_context_8 : decode cL_context 8 = .ok (.lastore, 1) := by decide +kernel
theorem dL_context_9 : decode cL_context 9 = .ok (.goto 6, 3) := by decide +kernel
theorem dL_context_12 : decode cL_context 12 = .ok (.astore_n 3, 1) := by decide +kernel
theorem dL_context_13 : decode cL_context 13 = .ok (.iconst 1, 1) := by decide +kernel
theorem dL_context_14 : decode cL_context 14 = .ok (.ireturn, 1) := by decide +kernel
theorem dL_context_15 : decode cL_context 15 = .ok (.iconst 0, 1) := by decide +kernel
theorem dL_context_16 : decode cL_context 16 = .ok (.ireturn, 1) := by decide +kernel
theorem dL_root_0 : decode cL_root 0 = .ok (.aload_n 3, 1) := by decide +kernel
theorem dL_root_1 : decode cL_root 1 = .ok (.iconst 0, 1) := by decide +kernel
theorem dL_root_2 : decode cL_root 2 = .ok (.aload_n 0, 1) := by decide +kernel
theorem dL_root_3 : decode cL_root 3 = .ok (.iload_n 1, 1) := by decide +kernel
theorem dL_root_4 : decode cL_root 4 = .ok (.iload_n 2, 1) := by decide +kernel
theorem dL_root_5 : decode cL_root 5 = .ok (.invokevirtual 23, 3) := by decide +kernel
theorem dL_root_8 : decode cL_root 8 = .ok (.i2l, 1) := by decide +kernel
theorem dL_root_9 : decode cL_root 9 = .ok (.lastore, 1) := by decide +kernel
theorem dL_root_10 : decode cL_root 10 = .ok (.goto 11, 3) := by decide +kernel
theorem dL_root_13 : decode cL_root 13 = .ok (.astore 4, 2) := by decide +kernel
theorem dL_root_15 : decode cL_root 15 = .ok (.iconst 1, 1) := by decide +kernel
theorem dL_root_16 : decode cL_root 16 = .ok (.ireturn, 1) := by decide +kernel
theorem dL_root_17 : decode cL_root 17 = .ok (.astore 4, 2) := by decide +kernel
theorem dL_root_19 : decode cL_root 19 = .ok (.iconst 2, 1) := by decide +kernel
theorem dL_root_20 : decode cL_root 20 = .ok (.ireturn, 1) := by decide +kernel
theorem dL_root_21 : decode cL_root 21 = .ok (.iconst 0, 1) := by decide +kernel
theorem dL_root_22 : decode cL_root 22 = .ok (.ireturn, 1) := by decide +kernel
theorem dL_host_0 : decode cL_host 0 = .ok (.aload_n 3, 1) := by decide +kernel
theorem dL_host_1 : decode cL_host 1 = .ok (.iconst 0, 1) := by decide +kernel
theorem dL_host_2 : decode cL_host 2 = .ok (.aload_n 0, 1) := by decide +kernel
theorem dL_host_3 : decode cL_host 3 = .ok (.iload_n 1, 1) := by decide +kernel
theorem dL_host_4 : decode cL_host 4 = .ok (.iload_n 2, 1) := by decide +kernel
theorem dL_host_5 : decode cL_host 5 = .ok (.invokevirtual 29, 3) := by decide +kernel
theorem dL_host_8 : decode cL_host 8 = .ok (.i2l, 1) := by decide +kernel
theorem dL_host_9 : decode cL_host 9 = .ok (.lastore, 1) := by decide +kernel
theorem dL_host_10 : decode cL_host 10 = .ok (.goto 11, 3) := by decide +kernel
theorem dL_host_13 : decode cL_host 13 = .ok (.astore 4, 2) := by decide +kernel
theorem dL_host_15 : decode cL_host 15 = .ok (.iconst 1, 1) := by decide +kernel
theorem dL_host_16 : decode cL_host 16 = .ok (.ireturn, 1) := by decide +kernel
theorem dL_host_17 : decode cL_host 17 = .ok (.astore 4, 2) := by decide +kernel
theorem dL_host_19 : decode cL_host 19 = .ok (.iconst 2, 1) := by decide +kernel
theorem dL_host_20 : decode cL_host 20 = .ok (.ireturn, 1) := by decide +kernel
theorem dL_host_21 : decode cL_host 21 = .ok (.iconst 0, 1) := by decide +kernel
theorem dL_host_22 : decode cL_host 22 = .ok (.ireturn, 1) := by decide +kernel
theorem dL_walk_0 : decode cL_walk 0 = .ok (.aload_n 3, 1) := by decide +kernel
theorem dL_walk_1 : decode cL_walk 1 = .ok (.iconst 0, 1) := by decide +kernel
theorem dL_walk_2 : decode cL_walk 2 = .ok (.aload_n 0, 1) := by decide +kernel
theorem dL_walk_3 : decode cL_walk 3 = .ok (.iload_n 1, 1) := by decide +kernel
theorem dL_walk_4 : decode cL_walk 4 = .ok (.iload_n 2, 1) := by decide +kernel
theorem dL_walk_5 : decode cL_walk 5 = .ok (.invokevirtual 32, 3) := by decide +kernel
theorem dL_walk_8 : decode cL_walk 8 = .ok (.i2l, 1) := by decide +kernel
theorem dL_walk_9 : decode cL_walk 9 = .ok (.lastore, 1) := by decide +kernel
theorem dL_walk_10 : decode cL_walk 10 = .ok (.goto 7, 3) := by decide +kernel
theorem dL_walk_13 : decode cL_walk 13 = .ok (.astore 4, 2) := by decide +kernel
theorem dL_walk_15 : decode cL_walk 15 = .ok (.iconst 1, 1) := by decide +kernel
theorem dL_walk_16 : decode cL_walk 16 = .ok (.ireturn, 1) := by decide +kernel
theorem dL_walk_17 : decode cL_walk 17 = .ok (.iconst 0, 1) := by decide +kernel
theorem dL_walk_18 : decode cL_walk 18 = .ok (.ireturn, 1) := by decide +kernel
theorem dL_plain_0 : decode cL_plain 0 = .ok (.aload_n 3, 1) := by decide +kernel
theorem dL_plain_1 : decode cL_plain 1 = .ok (.iconst 0, 1) := by decide +kernel
theorem dL_plain_2 : decode cL_plain 2 = .ok (.aload_n 0, 1) := by decide +kernel
theorem dL_plain_3 : decode cL_plain 3 = .ok (.iload_n 1, 1) := by decide +kernel
theorem dL_plain_4 : decode cL_plain 4 = .ok (.iload_n 2, 1) := by decide +kernel
theorem dL_plain_5 : decode cL_plain 5 = .ok (.invokevirtual 35, 3) := by decide +kernel
theorem dL_plain_8 : decode cL_plain 8 = .ok (.i2l, 1) := by decide +kernel
theorem dL_plain_9 : decode cL_plain 9 = .ok (.lastore, 1) := by decide +kernel
theorem dL_plain_10 : decode cL_plain 10 = .ok (.goto 7, 3) := by decide +kernel
theorem dL_plain_13 : decode cL_plain 13 = .ok (.astore 4, 2) := by decide +kernel
theorem dL_plain_15 : decode cL_plain 15 = .ok (.iconst 1, 1) := by decide +kernel
theorem dL_plain_16 : decode cL_plain 16 = .ok (.ireturn, 1) := by decide +kernel
theorem dL_plain_17 : decode cL_plain 17 = .ok (.iconst 0, 1) := by decide +kernel
theorem dL_plain_18 : decode cL_plain 18 = .ok (.ireturn, 1) := by decide +kernel
theorem dL_flush_0 : decode cL_flush 0 = .ok (.aload_n 3, 1) := by decide +kernel
theorem dL_flush_1 : decode cL_flush 1 = .ok (.iconst 0, 1) := by decide +kernel
theorem dL_flush_2 : decode cL_flush 2 = .ok (.aload_n 0, 1) := by decide +kernel
theorem dL_flush_3 : decode cL_flush 3 = .ok (.iload_n 1, 1) := by decide +kernel
theorem dL_flush_4 : decode cL_flush 4 = .ok (.iload_n 2, 1) := by decide +kernel
theorem dL_flush_5 : decode cL_flush 5 = .ok (.invokevirtual 38, 3) := by decide +kernel
theorem dL_flush_8 : decode cL_flush 8 = .ok (.i2l, 1) := by decide +kernel
theorem dL_flush_9 : decode cL_flush 9 = .ok (.lastore, 1) := by decide +kernel
theorem dL_flush_10 : decode cL_flush 10 = .ok (.goto 7, 3) := by decide +kernel
theorem dL_flush_13 : decode cL_flush 13 = .ok (.astore 4, 2) := by decide +kernel
theorem dL_flush_15 : decode cL_flush 15 = .ok (.iconst 1, 1) := by decide +kernel
theorem dL_flush_16 : decode cL_flush 16 = .ok (.ireturn, 1) := by decide +kernel
theorem dL_flush_17 : decode cL_flush 17 = .ok (.iconst 0, 1) := by decide +kernel
theorem dL_flush_18 : decode cL_flush 18 = .ok (.ireturn, 1) := by decide +kernel
theorem dL_kept_0 : decode cL_kept 0 = .ok (.aload_n 3, 1) := by decide +kernel
theorem dL_kept_1 : decode cL_kept 1 = .ok (.iconst 0, 1) := by decide +kernel
theorem dL_kept_2 : decode cL_kept 2 = .ok (.aload_n 0, 1) := by decide +kernel
theorem dL_kept_3 : decode cL_kept 3 = .ok (.iload_n 1, 1) := by decide +kernel
theorem dL_kept_4 : decode cL_kept 4 = .ok (.iload_n 2, 1) := by decide +kernel
theorem dL_kept_5 : decode cL_kept 5 = .ok (.invokevirtual 41, 3) := by decide +kernel
theorem dL_kept_8 : decode cL_kept 8 = .ok (.i2l, 1) := by decide +kernel
theorem dL_kept_9 : decode cL_kept 9 = .ok (.lastore, 1) := by decide +kernel
theorem dL_kept_10 : decode cL_kept 10 = .ok (.goto 7, 3) := by decide +kernel
theorem dL_kept_13 : decode cL_kept 13 = .ok (.astore 4, 2) := by decide +kernel
theorem dL_kept_15 : decode cL_kept 15 = .ok (.iconst 1, 1) := by decide +kernel
theorem dL_kept_16 : decode cL_kept 16 = .ok (.ireturn, 1) := by decide +kernel
theorem dL_kept_17 : decode cL_kept 17 = .ok (.iconst 0, 1) := by decide +kernel
theorem dL_kept_18 : decode cL_kept 18 = .ok (.ireturn, 1) := by decide +kernel
theorem dL_stale_0 : decode cL_stale 0 = .ok (.aload_n 2, 1) := by decide +kernel
theorem dL_stale_1 : decode cL_stale 1 = .ok (.iconst 0, 1) := by decide +kernel
theorem dL_stale_2 : decode cL_stale 2 = .ok (.aload_n 0, 1) := by decide +kernel
theorem dL_stale_3 : decode cL_stale 3 = .ok (.iload_n 1, 1) := by decide +kernel
theorem dL_stale_4 : decode cL_stale 4 = .ok (.invokevirtual 44, 3) := by decide +kernel
theorem dL_stale_7 : decode cL_stale 7 = .ok (.i2l, 1) := by decide +kernel
theorem dL_stale_8 : decode cL_stale 8 = .ok (.lastore, 1) := by decide +kernel
theorem dL_stale_9 : decode cL_stale 9 = .ok (.goto 6, 3) := by decide +kernel
theorem dL_stale_12 : decode cL_stale 12 = .ok (.astore_n 3, 1) := by decide +kernel
theorem dL_stale_13 : decode cL_stale 13 = .ok (.iconst 1, 1) := by decide +kernel
theorem dL_stale_14 : decode cL_stale 14 = .ok (.ireturn, 1) := by decide +kernel
theorem dL_stale_15 : decode cL_stale 15 = .ok (.iconst 0, 1) := by decide +kernel
theorem dL_stale_16 : decode cL_stale 16 = .ok (.ireturn, 1) := by decide +kernel
theorem dL_law_0 : decode cL_law 0 = .ok (.new 8, 3) := by decide +kernel
theorem dL_law_3 : decode cL_law 3 = .ok (.dup, 1) := by decide +kernel
theorem dL_law_4 : decode cL_law 4 = .ok (.aload_n 0, 1) := by decide +kernel
theorem dL_law_5 : decode cL_law 5 = .ok (.iconst 0, 1) := by decide +kernel
theorem dL_law_6 : decode cL_law 6 = .ok (.invokestatic 47, 3) := by decide +kernel
theorem dL_law_9 : decode cL_law 9 = .ok (.aload_n 0, 1) := by decide +kernel
theorem dL_law_10 : decode cL_law 10 = .ok (.iconst 1, 1) := by decide +kernel
theorem dL_law_11 : decode cL_law 11 = .ok (.invokestatic 47, 3) := by decide +kernel
theorem dL_law_14 : decode cL_law 14 = .ok (.invokespecial 53, 3) := by decide +kernel
theorem dL_law_17 : decode cL_law 17 = .ok (.astore_n 1, 1) := by decide +kernel
theorem dL_law_18 : decode cL_law 18 = .ok (.new 56, 3) := by decide +kernel
theorem dL_law_21 : decode cL_law 21 = .ok (.dup, 1) := by decide +kernel
theorem dL_law_22 : decode cL_law 22 = .ok (.aload_n 0, 1) := by decide +kernel
theorem dL_law_23 : decode cL_law 23 = .ok (.iconst 0, 1) := by decide +kernel
theorem dL_law_24 : decode cL_law 24 = .ok (.invokestatic 47, 3) := by decide +kernel
theorem dL_law_27 : decode cL_law 27 = .ok (.aload_n 0, 1) := by decide +kernel
theorem dL_law_28 : decode cL_law 28 = .ok (.iconst 1, 1) := by decide +kernel
theorem dL_law_29 : decode cL_law 29 = .ok (.invokestatic 47, 3) := by decide +kernel
theorem dL_law_32 : decode cL_law 32 = .ok (.invokespecial 58, 3) := by decide +kernel
theorem dL_law_35 : decode cL_law 35 = .ok (.astore_n 2, 1) := by decide +kernel
theorem dL_law_36 : decode cL_law 36 = .ok (.iconst 1, 1) := by decide +kernel
theorem dL_law_37 : decode cL_law 37 = .ok (.newarray .long, 2) := by decide +kernel
theorem dL_law_39 : decode cL_law 39 = .ok (.astore_n 3, 1) := by decide +kernel
theorem dL_law_40 : decode cL_law 40 = .ok (.iconst 2, 1) := by decide +kernel
theorem dL_law_41 : decode cL_law 41 = .ok (.istore 4, 2) := by decide +kernel
theorem dL_law_43 : decode cL_law 43 = .ok (.iload 4, 2) := by decide +kernel
theorem dL_law_45 : decode cL_law 45 = .ok (.aload_n 0, 1) := by decide +kernel
theorem dL_law_46 : decode cL_law 46 = .ok (.arraylength, 1) := by decide +kernel
theorem dL_law_47 : decode cL_law 47 = .ok (.iconst 4, 1) := by decide +kernel
theorem dL_law_48 : decode cL_law 48 = .ok (.isub, 1) := by decide +kernel
theorem dL_law_49 : decode cL_law 49 = .ok (.if_icmp .gt 851, 3) := by decide +kernel
theorem dL_law_52 : decode cL_law 52 = .ok (.aload_n 0, 1) := by decide +kernel
theorem dL_law_53 : decode cL_law 53 = .ok (.iload 4, 2) := by decide +kernel
theorem dL_law_55 : decode cL_law 55 = .ok (.iaload, 1) := by decide +kernel
theorem dL_law_56 : decode cL_law 56 = .ok (.bipush 15, 2) := by decide +kernel
theorem dL_law_58 : decode cL_law 58 = .ok (.iand, 1) := by decide +kernel
theorem dL_law_59 : decode cL_law 59 = .ok (.tableswitch 835 0 13 #[69, 168, 223, 279, 347, 415, 456, 524, 537, 550, 618, 686, 754, 810], 69) := by decide +kernel
theorem dL_law_128 : decode cL_law 128 = .ok (.aload_n 1, 1) := by decide +kernel
theorem dL_law_129 : decode cL_law 129 = .ok (.aload_n 0, 1) := by decide +kernel
theorem dL_law_130 : decode cL_law 130 = .ok (.iload 4, 2) := by decide +kernel
theorem dL_law_132 : decode cL_law 132 = .ok (.iconst 1, 1) := by decide +kernel
theorem dL_law_133 : decode cL_law 133 = .ok (.iadd, 1) := by decide +kernel
theorem dL_law_134 : decode cL_law 134 = .ok (.iaload, 1) := by decide +kernel
theorem dL_law_135 : decode cL_law 135 = .ok (.aload_n 0, 1) := by decide +kernel
theorem dL_law_136 : decode cL_law 136 = .ok (.iload 4, 2) := by decide +kernel
theorem dL_law_138 : decode cL_law 138 = .ok (.iconst 2, 1) := by decide +kernel
theorem dL_law_139 : decode cL_law 139 = .ok (.iadd, 1) := by decide +kernel
theorem dL_law_140 : decode cL_law 140 = .ok (.iaload, 1) := by decide +kernel
theorem dL_law_141 : decode cL_law 141 = .ok (.i2l, 1) := by decide +kernel
theorem dL_law_142 : decode cL_law 142 = .ok (.bipush 32, 2) := by decide +kernel
theorem dL_law_144 : decode cL_law 144 = .ok (.lshl, 1) := by decide +kernel
theorem dL_law_145 : decode cL_law 145 = .ok (.aload_n 0, 1) := by decide +kernel
theorem dL_law_146 : decode cL_law 146 = .ok (.iload 4, 2) := by decide +kernel
theorem dL_law_148 : decode cL_law 148 = .ok (.iconst 3, 1) := by decide +kernel
theorem dL_law_149 : decode cL_law 149 = .ok (.iadd, 1) := by decide +kernel
theorem dL_law_150 : decode cL_law 150 = .ok (.iaload, 1) := by decide +kernel
theorem dL_law_151 : decode cL_law 151 = .ok (.i2l, 1) := by decide +kernel
theorem dL_law_152 : decode cL_law 152 = .ok (.ldc2_w 59, 3) := by decide +kernel
theorem dL_law_155 : decode cL_law 155 = .ok (.land, 1) := by decide +kernel
theorem dL_law_156 : decode cL_law 156 = .ok (.lor, 1) := by decide +kernel
theorem dL_law_157 : decode cL_law 157 = .ok (.aload_n 3, 1) := by decide +kernel
theorem dL_law_158 : decode cL_law 158 = .ok (.invokestatic 61, 3) := by decide +kernel
theorem dL_law_161 : decode cL_law 161 = .ok (.istore 5, 2) := by decide +kernel
theorem dL_law_163 : decode cL_law 163 = .ok (.aload_n 2, 1) := by decide +kernel
theorem dL_law_164 : decode cL_law 164 = .ok (.aload_n 0, 1) := by decide +kernel
theorem dL_law_165 : decode cL_law 165 = .ok (.iload 4, 2) := by decide +kernel
theorem dL_law_167 : decode cL_law 167 = .ok (.iconst 1, 1) := by decide +kernel
theorem dL_law_168 : decode cL_law 168 = .ok (.iadd, 1) := by decide +kernel
theorem dL_law_169 : decode cL_law 169 = .ok (.iaload, 1) := by decide +kernel
theorem dL_law_170 : decode cL_law 170 = .ok (.aload_n 0, 1) := by decide +kernel
theorem dL_law_171 : decode cL_law 171 = .ok (.iload 4, 2) := by decide +kernel
theorem dL_law_173 : decode cL_law 173 = .ok (.iconst 2, 1) := by decide +kernel
theorem dL_law_174 : decode cL_law 174 = .ok (.iadd, 1) := by decide +kernel
theorem dL_law_175 : decode cL_law 175 = .ok (.iaload, 1) := by decide +kernel
theorem dL_law_176 : decode cL_law 176 = .ok (.i2l, 1) := by decide +kernel
theorem dL_law_177 : decode cL_law 177 = .ok (.bipush 32, 2) := by decide +kernel
theorem dL_law_179 : decode cL_law 179 = .ok (.lshl, 1) := by decide +kernel
theorem dL_law_180 : decode cL_law 180 = .ok (.aload_n 0, 1) := by decide +kernel
theorem dL_law_181 : decode cL_law 181 = .ok (.iload 4, 2) := by decide +kernel
theorem dL_law_183 : decode cL_law 183 = .ok (.iconst 3, 1) := by decide +kernel
theorem dL_law_184 : decode cL_law 184 = .ok (.iadd, 1) := by decide +kernel
theorem dL_law_185 : decode cL_law 185 = .ok (.iaload, 1) := by decide +kernel
theorem dL_law_186 : decode cL_law 186 = .ok (.i2l, 1) := by decide +kernel
theorem dL_law_187 : decode cL_law 187 = .ok (.ldc2_w 59, 3) := by decide +kernel
theorem dL_law_190 : decode cL_law 190 = .ok (.land, 1) := by decide +kernel
theorem dL_law_191 : decode cL_law 191 = .ok (.lor, 1) := by decide +kernel
theorem dL_law_192 : decode cL_law 192 = .ok (.invokevirtual 64, 3) := by decide +kernel
theorem dL_law_195 : decode cL_law 195 = .ok (.lstore 6, 2) := by decide +kernel
theorem dL_law_197 : decode cL_law 197 = .ok (.aload_n 2, 1) := by decide +kernel
theorem dL_law_198 : decode cL_law 198 = .ok (.invokevirtual 65, 3) := by decide +kernel
theorem dL_law_201 : decode cL_law 201 = .ok (.iload 5, 2) := by decide +kernel
theorem dL_law_203 : decode cL_law 203 = .ok (.if_icmp .eq 5, 3) := by decide +kernel
theorem dL_law_206 : decode cL_law 206 = .ok (.iconst 0, 1) := by decide +kernel
theorem dL_law_207 : decode cL_law 207 = .ok (.ireturn, 1) := by decide +kernel
theorem dL_law_208 : decode cL_law 208 = .ok (.iload 5, 2) := by decide +kernel
theorem dL_law_210 : decode cL_law 210 = .ok (.ifCond .ne 14, 3) := by decide +kernel
theorem dL_law_213 : decode cL_law 213 = .ok (.aload_n 3, 1) := by decide +kernel
theorem dL_law_214 : decode cL_law 214 = .ok (.iconst 0, 1) := by decide +kernel
theorem dL_law_215 : decode cL_law 215 = .ok (.laload, 1) := by decide +kernel
theorem dL_law_216 : decode cL_law 216 = .ok (.lload 6, 2) := by decide +kernel
theorem dL_law_218 : decode cL_law 218 = .ok (.lcmp, 1) := by decide +kernel
theorem dL_law_219 : decode cL_law 219 = .ok (.ifCond .eq 5, 3) := by decide +kernel
theorem dL_law_222 : decode cL_law 222 = .ok (.iconst 0, 1) := by decide +kernel
theorem dL_law_223 : decode cL_law 223 = .ok (.ireturn, 1) := by decide +kernel
theorem dL_law_224 : decode cL_law 224 = .ok (.goto 670, 3) := by decide +kernel
theorem dL_law_227 : decode cL_law 227 = .ok (.aload_n 1, 1) := by decide +kernel
theorem dL_law_228 : decode cL_law 228 = .ok (.aload_n 0, 1) := by decide +kernel
theorem dL_law_229 : decode cL_law 229 = .ok (.iload 4, 2) := by decide +kernel
theorem dL_law_231 : decode cL_law 231 = .ok (.iconst 1, 1) := by decide +kernel
theorem dL_law_232 : decode cL_law 232 = .ok (.iadd, 1) := by decide +kernel
theorem dL_law_233 : decode cL_law 233 = .ok (.iaload, 1) := by decide +kernel
theorem dL_law_234 : decode cL_law 234 = .ok (.aload_n 3, 1) := by decide +kernel
theorem dL_law_235 : decode cL_law 235 = .ok (.invokestatic 69, 3) := by decide +kernel
theorem dL_law_238 : decode cL_law 238 = .ok (.istore 5, 2) := by decide +kernel
theorem dL_law_240 : decode cL_law 240 = .ok (.aload_n 2, 1) := by decide +kernel
theorem dL_law_241 : decode cL_law 241 = .ok (.aload_n 0, 1) := by decide +kernel
theorem dL_law_242 : decode cL_law 242 = .ok (.iload 4, 2) := by decide +kernel
theorem dL_law_244 : decode cL_law 244 = .ok (.iconst 1, 1) := by decide +kernel
theorem dL_law_245 : decode cL_law 245 = .ok (.iadd, 1) := by decide +kernel
theorem dL_law_246 : decode cL_law 246 = .ok (.iaload, 1) := by decide +kernel
theorem dL_law_247 : decode cL_law 247 = .ok (.invokevirtual 72, 3) := by decide +kernel
theorem dL_law_250 : decode cL_law 250 = .ok (.lstore 6, 2) := by decide +kernel
theorem dL_law_252 : decode cL_law 252 = .ok (.aload_n 2, 1) := by decide +kernel
theorem dL_law_253 : decode cL_law 253 = .ok (.invokevirtual 65, 3) := by decide +kernel
theorem dL_law_256 : decode cL_law 256 = .ok (.iload 5, 2) := by decide +kernel
theorem dL_law_258 : decode cL_law 258 = .ok (.if_icmp .eq 5, 3) := by decide +kernel
theorem dL_law_261 : decode cL_law 261 = .ok (.iconst 0, 1) := by decide +kernel
theorem dL_law_262 : decode cL_law 262 = .ok (.ireturn, 1) := by decide +kernel
theorem dL_law_263 : decode cL_law 263 = .ok (.iload 5, 2) := by decide +kernel
theorem dL_law_265 : decode cL_law 265 = .ok (.ifCond .ne 14, 3) := by decide +kernel
theorem dL_law_268 : decode cL_law 268 = .ok (.aload_n 3, 1) := by decide +kernel
theorem dL_law_269 : decode cL_law 269 = .ok (.iconst 0, 1) := by decide +kernel
theorem dL_law_270 : decode cL_law 270 = .ok (.laload, 1) := by decide +kernel
theorem dL_law_271 : decode cL_law 271 = .ok (.lload 6, 2) := by decide +kernel
theorem dL_law_273 : decode cL_law 273 = .ok (.lcmp, 1) := by decide +kernel
theorem dL_law_274 : decode cL_law 274 = .ok (.ifCond .eq 5, 3) := by decide +kernel
theorem dL_law_277 : decode cL_law 277 = .ok (.iconst 0, 1) := by decide +kernel
theorem dL_law_278 : decode cL_law 278 = .ok (.ireturn, 1) := by decide +kernel
theorem dL_law_279 : decode cL_law 279 = .ok (.goto 615, 3) := by decide +kernel
theorem dL_law_282 : decode cL_law 282 = .ok (.aload_n 1, 1) := by decide +kernel
theorem dL_law_283 : decode cL_law 283 = .ok (.aload_n 0, 1) := by decide +kernel
theorem dL_law_284 : decode cL_law 284 = .ok (.iload 4, 2) := by decide +kernel
theorem dL_law_286 : decode cL_law 286 = .ok (.iconst 1, 1) := by decide +kernel
theorem dL_law_287 : decode cL_law 287 = .ok (.iadd, 1) := by decide +kernel
theorem dL_law_288 : decode cL_law 288 = .ok (.iaload, 1) := by decide +kernel
theorem dL_law_289 : decode cL_law 289 = .ok (.aload_n 3, 1) := by decide +kernel
theorem dL_law_290 : decode cL_law 290 = .ok (.invokestatic 73, 3) := by decide +kernel
theorem dL_law_293 : decode cL_law 293 = .ok (.istore 5, 2) := by decide +kernel
theorem dL_law_295 : decode cL_law 295 = .ok (.aload_n 2, 1) := by decide +kernel
theorem dL_law_296 : decode cL_law 296 = .ok (.aload_n 0, 1) := by decide +kernel
theorem dL_law_297 : decode cL_law 297 = .ok (.iload 4, 2) := by decide +kernel
theorem dL_law_299 : decode cL_law 299 = .ok (.iconst 1, 1) := by decide +kernel
theorem dL_law_300 : decode cL_law 300 = .ok (.iadd, 1) := by decide +kernel
theorem dL_law_301 : decode cL_law 301 = .ok (.iaload, 1) := by decide +kernel
theorem dL_law_302 : decode cL_law 302 = .ok (.invokevirtual 75, 3) := by decide +kernel
theorem dL_law_305 : decode cL_law 305 = .ok (.istore 6, 2) := by decide +kernel
theorem dL_law_307 : decode cL_law 307 = .ok (.aload_n 2, 1) := by decide +kernel
theorem dL_law_308 : decode cL_law 308 = .ok (.invokevirtual 65, 3) := by decide +kernel
theorem dL_law_311 : decode cL_law 311 = .ok (.iload 5, 2) := by decide +kernel
theorem dL_law_313 : decode cL_law 313 = .ok (.if_icmp .eq 5, 3) := by decide +kernel
theorem dL_law_316 : decode cL_law 316 = .ok (.iconst 0, 1) := by decide +kernel
theorem dL_law_317 : decode cL_law 317 = .ok (.ireturn, 1) := by decide +kernel
theorem dL_law_318 : decode cL_law 318 = .ok (.iload 5, 2) := by decide +kernel
theorem dL_law_320 : decode cL_law 320 = .ok (.ifCond .ne 15, 3) := by decide +kernel
theorem dL_law_323 : decode cL_law 323 = .ok (.aload_n 3, 1) := by decide +kernel
theorem dL_law_324 : decode cL_law 324 = .ok (.iconst 0, 1) := by decide +kernel
theorem dL_law_325 : decode cL_law 325 = .ok (.laload, 1) := by decide +kernel
theorem dL_law_326 : decode cL_law 326 = .ok (.iload 6, 2) := by decide +kernel
theorem dL_law_328 : decode cL_law 328 = .ok (.i2l, 1) := by decide +kernel
theorem dL_law_329 : decode cL_law 329 = .ok (.lcmp, 1) := by decide +kernel
theorem dL_law_330 : decode cL_law 330 = .ok (.ifCond .eq 5, 3) := by decide +kernel
theorem dL_law_333 : decode cL_law 333 = .ok (.iconst 0, 1) := by decide +kernel
theorem dL_law_334 : decode cL_law 334 = .ok (.ireturn, 1) := by decide +kernel
theorem dL_law_335 : decode cL_law 335 = .ok (.goto 559, 3) := by decide +kernel
theorem dL_law_338 : decode cL_law 338 = .ok (.aload_n 1, 1) := by decide +kernel
theorem dL_law_339 : decode cL_law 339 = .ok (.aload_n 0, 1) := by decide +kernel
theorem dL_law_340 : decode cL_law 340 = .ok (.iload 4, 2) := by decide +kernel
theorem dL_law_342 : decode cL_law 342 = .ok (.iconst 1, 1) := by decide +kernel
theorem dL_law_343 : decode cL_law 343 = .ok (.iadd, 1) := by decide +kernel
theorem dL_law_344 : decode cL_law 344 = .ok (.iaload, 1) := by decide +kernel
theorem dL_law_345 : decode cL_law 345 = .ok (.aload_n 0, 1) := by decide +kernel
theorem dL_law_346 : decode cL_law 346 = .ok (.iload 4, 2) := by decide +kernel
theorem dL_law_348 : decode cL_law 348 = .ok (.iconst 2, 1) := by decide +kernel
theorem dL_law_349 : decode cL_law 349 = .ok (.iadd, 1) := by decide +kernel
theorem dL_law_350 : decode cL_law 350 = .ok (.iaload, 1) := by decide +kernel
theorem dL_law_351 : decode cL_law 351 = .ok (.aload_n 3, 1) := by decide +kernel
theorem dL_law_352 : decode cL_law 352 = .ok (.invokestatic 76, 3) := by decide +kernel
theorem dL_law_355 : decode cL_law 355 = .ok (.istore 5, 2) := by decide +kernel
theorem dL_law_357 : decode cL_law 357 = .ok (.aload_n 2, 1) := by decide +kernel
theorem dL_law_358 : decode cL_law 358 = .ok (.aload_n 0, 1) := by decide +kernel
theorem dL_law_359 : decode cL_law 359 = .ok (.iload 4, 2) := by decide +kernel
theorem dL_law_361 : decode cL_law 361 = .ok (.iconst 1, 1) := by decide +kernel
theorem dL_law_362 : decode cL_law 362 = .ok (.iadd, 1) := by decide +kernel
theorem dL_law_363 : decode cL_law 363 = .ok (.iaload, 1) := by decide +kernel
theorem dL_law_364 : decode cL_law 364 = .ok (.aload_n 0, 1) := by decide +kernel
theorem dL_law_365 : decode cL_law 365 = .ok (.iload 4, 2) := by decide +kernel
theorem dL_law_367 : decode cL_law 367 = .ok (.iconst 2, 1) := by decide +kernel
theorem dL_law_368 : decode cL_law 368 = .ok (.iadd, 1) := by decide +kernel
theorem dL_law_369 : decode cL_law 369 = .ok (.iaload, 1) := by decide +kernel
theorem dL_law_370 : decode cL_law 370 = .ok (.invokevirtual 79, 3) := by decide +kernel
theorem dL_law_373 : decode cL_law 373 = .ok (.istore 6, 2) := by decide +kernel
theorem dL_law_375 : decode cL_law 375 = .ok (.aload_n 2, 1) := by decide +kernel
theorem dL_law_376 : decode cL_law 376 = .ok (.invokevirtual 65, 3) := by decide +kernel
theorem dL_law_379 : decode cL_law 379 = .ok (.iload 5, 2) := by decide +kernel
theorem dL_law_381 : decode cL_law 381 = .ok (.if_icmp .eq 5, 3) := by decide +kernel
theorem dL_law_384 : decode cL_law 384 = .ok (.iconst 0, 1) := by decide +kernel
theorem dL_law_385 : decode cL_law 385 = .ok (.ireturn, 1) := by decide +kernel
theorem dL_law_386 : decode cL_law 386 = .ok (.iload 5, 2) := by decide +kernel
theorem dL_law_388 : decode cL_law 388 = .ok (.ifCond .ne 15, 3) := by decide +kernel
theorem dL_law_391 : decode cL_law 391 = .ok (.aload_n 3, 1) := by decide +kernel
theorem dL_law_392 : decode cL_law 392 = .ok (.iconst 0, 1) := by decide +kernel
theorem dL_law_393 : decode cL_law 393 = .ok (.laload, 1) := by decide +kernel
theorem dL_law_394 : decode cL_law 394 = .ok (.iload 6, 2) := by decide +kernel
theorem dL_law_396 : decode cL_law 396 = .ok (.i2l, 1) := by decide +kernel
theorem dL_law_397 : decode cL_law 397 = .ok (.lcmp, 1) := by decide +kernel
theorem dL_law_398 : decode cL_law 398 = .ok (.ifCond .eq 5, 3) := by decide +kernel
theorem dL_law_401 : decode cL_law 401 = .ok (.iconst 0, 1) := by decide +kernel
theorem dL_law_402 : decode cL_law 402 = .ok (.ireturn, 1) := by decide +kernel
theorem dL_law_403 : decode cL_law 403 = .ok (.goto 491, 3) := by decide +kernel
theorem dL_law_406 : decode cL_law 406 = .ok (.aload_n 1, 1) := by decide +kernel
theorem dL_law_407 : decode cL_law 407 = .ok (.aload_n 0, 1) := by decide +kernel
theorem dL_law_408 : decode cL_law 408 = .ok (.iload 4, 2) := by decide +kernel
theorem dL_law_410 : decode cL_law 410 = .ok (.iconst 1, 1) := by decide +kernel
theorem dL_law_411 : decode cL_law 411 = .ok (.iadd, 1) := by decide +kernel
theorem dL_law_412 : decode cL_law 412 = .ok (.iaload, 1) := by decide +kernel
theorem dL_law_413 : decode cL_law 413 = .ok (.aload_n 0, 1) := by decide +kernel
theorem dL_law_414 : decode cL_law 414 = .ok (.iload 4, 2) := by decide +kernel
theorem dL_law_416 : decode cL_law 416 = .ok (.iconst 2, 1) := by decide +kernel
theorem dL_law_417 : decode cL_law 417 = .ok (.iadd, 1) := by decide +kernel
theorem dL_law_418 : decode cL_law 418 = .ok (.iaload, 1) := by decide +kernel
theorem dL_law_419 : decode cL_law 419 = .ok (.aload_n 3, 1) := by decide +kernel
theorem dL_law_420 : decode cL_law 420 = .ok (.invokestatic 80, 3) := by decide +kernel
theorem dL_law_423 : decode cL_law 423 = .ok (.istore 5, 2) := by decide +kernel
theorem dL_law_425 : decode cL_law 425 = .ok (.aload_n 2, 1) := by decide +kernel
theorem dL_law_426 : decode cL_law 426 = .ok (.aload_n 0, 1) := by decide +kernel
theorem dL_law_427 : decode cL_law 427 = .ok (.iload 4, 2) := by decide +kernel
theorem dL_law_429 : decode cL_law 429 = .ok (.iconst 1, 1) := by decide +kernel
theorem dL_law_430 : decode cL_law 430 = .ok (.iadd, 1) := by decide +kernel
theorem dL_law_431 : decode cL_law 431 = .ok (.iaload, 1) := by decide +kernel
theorem dL_law_432 : decode cL_law 432 = .ok (.aload_n 0, 1) := by decide +kernel
theorem dL_law_433 : decode cL_law 433 = .ok (.iload 4, 2) := by decide +kernel
theorem dL_law_435 : decode cL_law 435 = .ok (.iconst 2, 1) := by decide +kernel
theorem dL_law_436 : decode cL_law 436 = .ok (.iadd, 1) := by decide +kernel
theorem dL_law_437 : decode cL_law 437 = .ok (.iaload, 1) := by decide +kernel
theorem dL_law_438 : decode cL_law 438 = .ok (.invokevirtual 82, 3) := by decide +kernel
theorem dL_law_441 : decode cL_law 441 = .ok (.istore 6, 2) := by decide +kernel
theorem dL_law_443 : decode cL_law 443 = .ok (.aload_n 2, 1) := by decide +kernel
theorem dL_law_444 : decode cL_law 444 = .ok (.invokevirtual 65, 3) := by decide +kernel
theorem dL_law_447 : decode cL_law 447 = .ok (.iload 5, 2) := by decide +kernel
theorem dL_law_449 : decode cL_law 449 = .ok (.if_icmp .eq 5, 3) := by decide +kernel
theorem dL_law_452 : decode cL_law 452 = .ok (.iconst 0, 1) := by decide +kernel
theorem dL_law_453 : decode cL_law 453 = .ok (.ireturn, 1) := by decide +kernel
theorem dL_law_454 : decode cL_law 454 = .ok (.iload 5, 2) := by decide +kernel
theorem dL_law_456 : decode cL_law 456 = .ok (.ifCond .ne 15, 3) := by decide +kernel
theorem dL_law_459 : decode cL_law 459 = .ok (.aload_n 3, 1) := by decide +kernel
theorem dL_law_460 : decode cL_law 460 = .ok (.iconst 0, 1) := by decide +kernel
theorem dL_law_461 : decode cL_law 461 = .ok (.laload, 1) := by decide +kernel
theorem dL_law_462 : decode cL_law 462 = .ok (.iload 6, 2) := by decide +kernel
theorem dL_law_464 : decode cL_law 464 = .ok (.i2l, 1) := by decide +kernel
theorem dL_law_465 : decode cL_law 465 = .ok (.lcmp, 1) := by decide +kernel
theorem dL_law_466 : decode cL_law 466 = .ok (.ifCond .eq 5, 3) := by decide +kernel
theorem dL_law_469 : decode cL_law 469 = .ok (.iconst 0, 1) := by decide +kernel
theorem dL_law_470 : decode cL_law 470 = .ok (.ireturn, 1) := by decide +kernel
theorem dL_law_471 : decode cL_law 471 = .ok (.goto 423, 3) := by decide +kernel
theorem dL_law_474 : decode cL_law 474 = .ok (.aload_n 1, 1) := by decide +kernel
theorem dL_law_475 : decode cL_law 475 = .ok (.aload_n 0, 1) := by decide +kernel
theorem dL_law_476 : decode cL_law 476 = .ok (.iload 4, 2) := by decide +kernel
theorem dL_law_478 : decode cL_law 478 = .ok (.iconst 1, 1) := by decide +kernel
theorem dL_law_479 : decode cL_law 479 = .ok (.iadd, 1) := by decide +kernel
theorem dL_law_480 : decode cL_law 480 = .ok (.iaload, 1) := by decide +kernel
theorem dL_law_481 : decode cL_law 481 = .ok (.ifCond .eq 7, 3) := by decide +kernel
theorem dL_law_484 : decode cL_law 484 = .ok (.iconst 1, 1) := by decide +kernel
theorem dL_law_485 : decode cL_law 485 = .ok (.goto 4, 3) := by decide +kernel
theorem dL_law_488 : decode cL_law 488 = .ok (.iconst 0, 1) := by decide +kernel
theorem dL_law_489 : decode cL_law 489 = .ok (.invokevirtual 83, 3) := by decide +kernel
theorem dL_law_492 : decode cL_law 492 = .ok (.aload_n 2, 1) := by decide +kernel
theorem dL_law_493 : decode cL_law 493 = .ok (.aload_n 0, 1) := by decide +kernel
theorem dL_law_494 : decode cL_law 494 = .ok (.iload 4, 2) := by decide +kernel
theorem dL_law_496 : decode cL_law 496 = .ok (.iconst 1, 1) := by decide +kernel
theorem dL_law_497 : decode cL_law 497 = .ok (.iadd, 1) := by decide +kernel
theorem dL_law_498 : decode cL_law 498 = .ok (.iaload, 1) := by decide +kernel
theorem dL_law_499 : decode cL_law 499 = .ok (.ifCond .eq 7, 3) := by decide +kernel
theorem dL_law_502 : decode cL_law 502 = .ok (.iconst 1, 1) := by decide +kernel
theorem dL_law_503 : decode cL_law 503 = .ok (.goto 4, 3) := by decide +kernel
theorem dL_law_506 : decode cL_law 506 = .ok (.iconst 0, 1) := by decide +kernel
theorem dL_law_507 : decode cL_law 507 = .ok (.invokevirtual 87, 3) := by decide +kernel
theorem dL_law_510 : decode cL_law 510 = .ok (.if_icmp .eq 384, 3) := by decide +kernel
theorem dL_law_513 : decode cL_law 513 = .ok (.iconst 0, 1) := by decide +kernel
theorem dL_law_514 : decode cL_law 514 = .ok (.ireturn, 1) := by decide +kernel
theorem dL_law_515 : decode cL_law 515 = .ok (.aload_n 1, 1) := by decide +kernel
theorem dL_law_516 : decode cL_law 516 = .ok (.aload_n 0, 1) := by decide +kernel
theorem dL_law_517 : decode cL_law 517 = .ok (.iload 4, 2) := by decide +kernel
theorem dL_law_519 : decode cL_law 519 = .ok (.iconst 1, 1) := by decide +kernel
theorem dL_law_520 : decode cL_law 520 = .ok (.iadd, 1) := by decide +kernel
theorem dL_law_521 : decode cL_law 521 = .ok (.iaload, 1) := by decide +kernel
theorem dL_law_522 : decode cL_law 522 = .ok (.aload_n 0, 1) := by decide +kernel
theorem dL_law_523 : decode cL_law 523 = .ok (.iload 4, 2) := by decide +kernel
theorem dL_law_525 : decode cL_law 525 = .ok (.iconst 2, 1) := by decide +kernel
theorem dL_law_526 : decode cL_law 526 = .ok (.iadd, 1) := by decide +kernel
theorem dL_law_527 : decode cL_law 527 = .ok (.iaload, 1) := by decide +kernel
theorem dL_law_528 : decode cL_law 528 = .ok (.aload_n 3, 1) := by decide +kernel
theorem dL_law_529 : decode cL_law 529 = .ok (.invokestatic 88, 3) := by decide +kernel
theorem dL_law_532 : decode cL_law 532 = .ok (.istore 5, 2) := by decide +kernel
theorem dL_law_534 : decode cL_law 534 = .ok (.aload_n 2, 1) := by decide +kernel
theorem dL_law_535 : decode cL_law 535 = .ok (.aload_n 0, 1) := by decide +kernel
theorem dL_law_536 : decode cL_law 536 = .ok (.iload 4, 2) := by decide +kernel
theorem dL_law_538 : decode cL_law 538 = .ok (.iconst 1, 1) := by decide +kernel
theorem dL_law_539 : decode cL_law 539 = .ok (.iadd, 1) := by decide +kernel
theorem dL_law_540 : decode cL_law 540 = .ok (.iaload, 1) := by decide +kernel
theorem dL_law_541 : decode cL_law 541 = .ok (.aload_n 0, 1) := by decide +kernel
theorem dL_law_542 : decode cL_law 542 = .ok (.iload 4, 2) := by decide +kernel
theorem dL_law_544 : decode cL_law 544 = .ok (.iconst 2, 1) := by decide +kernel
theorem dL_law_545 : decode cL_law 545 = .ok (.iadd, 1) := by decide +kernel
theorem dL_law_546 : decode cL_law 546 = .ok (.iaload, 1) := by decide +kernel
theorem dL_law_547 : decode cL_law 547 = .ok (.invokevirtual 90, 3) := by decide +kernel
theorem dL_law_550 : decode cL_law 550 = .ok (.istore 6, 2) := by decide +kernel
theorem dL_law_552 : decode cL_law 552 = .ok (.aload_n 2, 1) := by decide +kernel
theorem dL_law_553 : decode cL_law 553 = .ok (.invokevirtual 65, 3) := by decide +kernel
theorem dL_law_556 : decode cL_law 556 = .ok (.iload 5, 2) := by decide +kernel
theorem dL_law_558 : decode cL_law 558 = .ok (.if_icmp .eq 5, 3) := by decide +kernel
theorem dL_law_561 : decode cL_law 561 = .ok (.iconst 0, 1) := by decide +kernel
theorem dL_law_562 : decode cL_law 562 = .ok (.ireturn, 1) := by decide +kernel
theorem dL_law_563 : decode cL_law 563 = .ok (.iload 5, 2) := by decide +kernel
theorem dL_law_565 : decode cL_law 565 = .ok (.ifCond .ne 15, 3) := by decide +kernel
theorem dL_law_568 : decode cL_law 568 = .ok (.aload_n 3, 1) := by decide +kernel
theorem dL_law_569 : decode cL_law 569 = .ok (.iconst 0, 1) := by decide +kernel
theorem dL_law_570 : decode cL_law 570 = .ok (.laload, 1) := by decide +kernel
theorem dL_law_571 : decode cL_law 571 = .ok (.iload 6, 2) := by decide +kernel
theorem dL_law_573 : decode cL_law 573 = .ok (.i2l, 1) := by decide +kernel
theorem dL_law_574 : decode cL_law 574 = .ok (.lcmp, 1) := by decide +kernel
theorem dL_law_575 : decode cL_law 575 = .ok (.ifCond .eq 5, 3) := by decide +kernel
theorem dL_law_578 : decode cL_law 578 = .ok (.iconst 0, 1) := by decide +kernel
theorem dL_law_579 : decode cL_law 579 = .ok (.ireturn, 1) := by decide +kernel
theorem dL_law_580 : decode cL_law 580 = .ok (.goto 314, 3) := by decide +kernel
theorem dL_law_583 : decode cL_law 583 = .ok (.aload_n 1, 1) := by decide +kernel
theorem dL_law_584 : decode cL_law 584 = .ok (.invokevirtual 91, 3) := by decide +kernel
theorem dL_law_587 : decode cL_law 587 = .ok (.aload_n 2, 1) := by decide +kernel
theorem dL_law_588 : decode cL_law 588 = .ok (.invokevirtual 94, 3) := by decide +kernel
theorem dL_law_591 : decode cL_law 591 = .ok (.if_icmp .eq 303, 3) := by decide +kernel
theorem dL_law_594 : decode cL_law 594 = .ok (.iconst 0, 1) := by decide +kernel
theorem dL_law_595 : decode cL_law 595 = .ok (.ireturn, 1) := by decide +kernel
theorem dL_law_596 : decode cL_law 596 = .ok (.aload_n 1, 1) := by decide +kernel
theorem dL_law_597 : decode cL_law 597 = .ok (.invokevirtual 95, 3) := by decide +kernel
theorem dL_law_600 : decode cL_law 600 = .ok (.aload_n 2, 1) := by decide +kernel
theorem dL_law_601 : decode cL_law 601 = .ok (.invokevirtual 98, 3) := by decide +kernel
theorem dL_law_604 : decode cL_law 604 = .ok (.if_icmp .eq 290, 3) := by decide +kernel
theorem dL_law_607 : decode cL_law 607 = .ok (.iconst 0, 1) := by decide +kernel
theorem dL_law_608 : decode cL_law 608 = .ok (.ireturn, 1) := by decide +kernel
theorem dL_law_609 : decode cL_law 609 = .ok (.aload_n 1, 1) := by decide +kernel
theorem dL_law_610 : decode cL_law 610 = .ok (.aload_n 0, 1) := by decide +kernel
theorem dL_law_611 : decode cL_law 611 = .ok (.iload 4, 2) := by decide +kernel
theorem dL_law_613 : decode cL_law 613 = .ok (.iconst 1, 1) := by decide +kernel
theorem dL_law_614 : decode cL_law 614 = .ok (.iadd, 1) := by decide +kernel
theorem dL_law_615 : decode cL_law 615 = .ok (.iaload, 1) := by decide +kernel
theorem dL_law_616 : decode cL_law 616 = .ok (.aload_n 0, 1) := by decide +kernel
theorem dL_law_617 : decode cL_law 617 = .ok (.iload 4, 2) := by decide +kernel
theorem dL_law_619 : decode cL_law 619 = .ok (.iconst 2, 1) := by decide +kernel
theorem dL_law_620 : decode cL_law 620 = .ok (.iadd, 1) := by decide +kernel
theorem dL_law_621 : decode cL_law 621 = .ok (.iaload, 1) := by decide +kernel
theorem dL_law_622 : decode cL_law 622 = .ok (.aload_n 3, 1) := by decide +kernel
theorem dL_law_623 : decode cL_law 623 = .ok (.invokestatic 99, 3) := by decide +kernel
theorem dL_law_626 : decode cL_law 626 = .ok (.istore 5, 2) := by decide +kernel
theorem dL_law_628 : decode cL_law 628 = .ok (.aload_n 2, 1) := by decide +kernel
theorem dL_law_629 : decode cL_law 629 = .ok (.aload_n 0, 1) := by decide +kernel
theorem dL_law_630 : decode cL_law 630 = .ok (.iload 4, 2) := by decide +kernel
theorem dL_law_632 : decode cL_law 632 = .ok (.iconst 1, 1) := by decide +kernel
theorem dL_law_633 : decode cL_law 633 = .ok (.iadd, 1) := by decide +kernel
theorem dL_law_634 : decode cL_law 634 = .ok (.iaload, 1) := by decide +kernel
theorem dL_law_635 : decode cL_law 635 = .ok (.aload_n 0, 1) := by decide +kernel
theorem dL_law_636 : decode cL_law 636 = .ok (.iload 4, 2) := by decide +kernel
theorem dL_law_638 : decode cL_law 638 = .ok (.iconst 2, 1) := by decide +kernel
theorem dL_law_639 : decode cL_law 639 = .ok (.iadd, 1) := by decide +kernel
theorem dL_law_640 : decode cL_law 640 = .ok (.iaload, 1) := by decide +kernel
theorem dL_law_641 : decode cL_law 641 = .ok (.invokevirtual 101, 3) := by decide +kernel
theorem dL_law_644 : decode cL_law 644 = .ok (.istore 6, 2) := by decide +kernel
theorem dL_law_646 : decode cL_law 646 = .ok (.aload_n 2, 1) := by decide +kernel
theorem dL_law_647 : decode cL_law 647 = .ok (.invokevirtual 65, 3) := by decide +kernel
theorem dL_law_650 : decode cL_law 650 = .ok (.iload 5, 2) := by decide +kernel
theorem dL_law_652 : decode cL_law 652 = .ok (.if_icmp .eq 5, 3) := by decide +kernel
theorem dL_law_655 : decode cL_law 655 = .ok (.iconst 0, 1) := by decide +kernel
theorem dL_law_656 : decode cL_law 656 = .ok (.ireturn, 1) := by decide +kernel
theorem dL_law_657 : decode cL_law 657 = .ok (.iload 5, 2) := by decide +kernel
theorem dL_law_659 : decode cL_law 659 = .ok (.ifCond .ne 15, 3) := by decide +kernel
theorem dL_law_662 : decode cL_law 662 = .ok (.aload_n 3, 1) := by decide +kernel
theorem dL_law_663 : decode cL_law 663 = .ok (.iconst 0, 1) := by decide +kernel
theorem dL_law_664 : decode cL_law 664 = .ok (.laload, 1) := by decide +kernel
theorem dL_law_665 : decode cL_law 665 = .ok (.iload 6, 2) := by decide +kernel
theorem dL_law_667 : decode cL_law 667 = .ok (.i2l, 1) := by decide +kernel
theorem dL_law_668 : decode cL_law 668 = .ok (.lcmp, 1) := by decide +kernel
theorem dL_law_669 : decode cL_law 669 = .ok (.ifCond .eq 5, 3) := by decide +kernel
theorem dL_law_672 : decode cL_law 672 = .ok (.iconst 0, 1) := by decide +kernel
theorem dL_law_673 : decode cL_law 673 = .ok (.ireturn, 1) := by decide +kernel
theorem dL_law_674 : decode cL_law 674 = .ok (.goto 220, 3) := by decide +kernel
theorem dL_law_677 : decode cL_law 677 = .ok (.aload_n 1, 1) := by decide +kernel
theorem dL_law_678 : decode cL_law 678 = .ok (.aload_n 0, 1) := by decide +kernel
theorem dL_law_679 : decode cL_law 679 = .ok (.iload 4, 2) := by decide +kernel
theorem dL_law_681 : decode cL_law 681 = .ok (.iconst 1, 1) := by decide +kernel
theorem dL_law_682 : decode cL_law 682 = .ok (.iadd, 1) := by decide +kernel
theorem dL_law_683 : decode cL_law 683 = .ok (.iaload, 1) := by decide +kernel
theorem dL_law_684 : decode cL_law 684 = .ok (.aload_n 0, 1) := by decide +kernel
theorem dL_law_685 : decode cL_law 685 = .ok (.iload 4, 2) := by decide +kernel
theorem dL_law_687 : decode cL_law 687 = .ok (.iconst 2, 1) := by decide +kernel
theorem dL_law_688 : decode cL_law 688 = .ok (.iadd, 1) := by decide +kernel
theorem dL_law_689 : decode cL_law 689 = .ok (.iaload, 1) := by decide +kernel
theorem dL_law_690 : decode cL_law 690 = .ok (.aload_n 3, 1) := by decide +kernel
theorem dL_law_691 : decode cL_law 691 = .ok (.invokestatic 102, 3) := by decide +kernel
theorem dL_law_694 : decode cL_law 694 = .ok (.istore 5, 2) := by decide +kernel
theorem dL_law_696 : decode cL_law 696 = .ok (.aload_n 2, 1) := by decide +kernel
theorem dL_law_697 : decode cL_law 697 = .ok (.aload_n 0, 1) := by decide +kernel
theorem dL_law_698 : decode cL_law 698 = .ok (.iload 4, 2) := by decide +kernel
theorem dL_law_700 : decode cL_law 700 = .ok (.iconst 1, 1) := by decide +kernel
theorem dL_law_701 : decode cL_law 701 = .ok (.iadd, 1) := by decide +kernel
theorem dL_law_702 : decode cL_law 702 = .ok (.iaload, 1) := by decide +kernel
theorem dL_law_703 : decode cL_law 703 = .ok (.aload_n 0, 1) := by decide +kernel
theorem dL_law_704 : decode cL_law 704 = .ok (.iload 4, 2) := by decide +kernel
theorem dL_law_706 : decode cL_law 706 = .ok (.iconst 2, 1) := by decide +kernel
theorem dL_law_707 : decode cL_law 707 = .ok (.iadd, 1) := by decide +kernel
theorem dL_law_708 : decode cL_law 708 = .ok (.iaload, 1) := by decide +kernel
theorem dL_law_709 : decode cL_law 709 = .ok (.invokevirtual 104, 3) := by decide +kernel
theorem dL_law_712 : decode cL_law 712 = .ok (.istore 6, 2) := by decide +kernel
theorem dL_law_714 : decode cL_law 714 = .ok (.aload_n 2, 1) := by decide +kernel
theorem dL_law_715 : decode cL_law 715 = .ok (.invokevirtual 65, 3) := by decide +kernel
theorem dL_law_718 : decode cL_law 718 = .ok (.iload 5, 2) := by decide +kernel
theorem dL_law_720 : decode cL_law 720 = .ok (.if_icmp .eq 5, 3) := by decide +kernel
theorem dL_law_723 : decode cL_law 723 = .ok (.iconst 0, 1) := by decide +kernel
theorem dL_law_724 : decode cL_law 724 = .ok (.ireturn, 1) := by decide +kernel
theorem dL_law_725 : decode cL_law 725 = .ok (.iload 5, 2) := by decide +kernel
theorem dL_law_727 : decode cL_law 727 = .ok (.ifCond .ne 15, 3) := by decide +kernel
theorem dL_law_730 : decode cL_law 730 = .ok (.aload_n 3, 1) := by decide +kernel
theorem dL_law_731 : decode cL_law 731 = .ok (.iconst 0, 1) := by decide +kernel
theorem dL_law_732 : decode cL_law 732 = .ok (.laload, 1) := by decide +kernel
theorem dL_law_733 : decode cL_law 733 = .ok (.iload 6, 2) := by decide +kernel
theorem dL_law_735 : decode cL_law 735 = .ok (.i2l, 1) := by decide +kernel
theorem dL_law_736 : decode cL_law 736 = .ok (.lcmp, 1) := by decide +kernel
theorem dL_law_737 : decode cL_law 737 = .ok (.ifCond .eq 5, 3) := by decide +kernel
theorem dL_law_740 : decode cL_law 740 = .ok (.iconst 0, 1) := by decide +kernel
theorem dL_law_741 : decode cL_law 741 = .ok (.ireturn, 1) := by decide +kernel
theorem dL_law_742 : decode cL_law 742 = .ok (.goto 152, 3) := by decide +kernel
theorem dL_law_745 : decode cL_law 745 = .ok (.aload_n 1, 1) := by decide +kernel
theorem dL_law_746 : decode cL_law 746 = .ok (.aload_n 0, 1) := by decide +kernel
theorem dL_law_747 : decode cL_law 747 = .ok (.iload 4, 2) := by decide +kernel
theorem dL_law_749 : decode cL_law 749 = .ok (.iconst 1, 1) := by decide +kernel
theorem dL_law_750 : decode cL_law 750 = .ok (.iadd, 1) := by decide +kernel
theorem dL_law_751 : decode cL_law 751 = .ok (.iaload, 1) := by decide +kernel
theorem dL_law_752 : decode cL_law 752 = .ok (.aload_n 0, 1) := by decide +kernel
theorem dL_law_753 : decode cL_law 753 = .ok (.iload 4, 2) := by decide +kernel
theorem dL_law_755 : decode cL_law 755 = .ok (.iconst 2, 1) := by decide +kernel
theorem dL_law_756 : decode cL_law 756 = .ok (.iadd, 1) := by decide +kernel
theorem dL_law_757 : decode cL_law 757 = .ok (.iaload, 1) := by decide +kernel
theorem dL_law_758 : decode cL_law 758 = .ok (.aload_n 3, 1) := by decide +kernel
theorem dL_law_759 : decode cL_law 759 = .ok (.invokestatic 105, 3) := by decide +kernel
theorem dL_law_762 : decode cL_law 762 = .ok (.istore 5, 2) := by decide +kernel
theorem dL_law_764 : decode cL_law 764 = .ok (.aload_n 2, 1) := by decide +kernel
theorem dL_law_765 : decode cL_law 765 = .ok (.aload_n 0, 1) := by decide +kernel
theorem dL_law_766 : decode cL_law 766 = .ok (.iload 4, 2) := by decide +kernel
theorem dL_law_768 : decode cL_law 768 = .ok (.iconst 1, 1) := by decide +kernel
theorem dL_law_769 : decode cL_law 769 = .ok (.iadd, 1) := by decide +kernel
theorem dL_law_770 : decode cL_law 770 = .ok (.iaload, 1) := by decide +kernel
theorem dL_law_771 : decode cL_law 771 = .ok (.aload_n 0, 1) := by decide +kernel
theorem dL_law_772 : decode cL_law 772 = .ok (.iload 4, 2) := by decide +kernel
theorem dL_law_774 : decode cL_law 774 = .ok (.iconst 2, 1) := by decide +kernel
theorem dL_law_775 : decode cL_law 775 = .ok (.iadd, 1) := by decide +kernel
theorem dL_law_776 : decode cL_law 776 = .ok (.iaload, 1) := by decide +kernel
theorem dL_law_777 : decode cL_law 777 = .ok (.invokevirtual 107, 3) := by decide +kernel
theorem dL_law_780 : decode cL_law 780 = .ok (.istore 6, 2) := by decide +kernel
theorem dL_law_782 : decode cL_law 782 = .ok (.aload_n 2, 1) := by decide +kernel
theorem dL_law_783 : decode cL_law 783 = .ok (.invokevirtual 65, 3) := by decide +kernel
theorem dL_law_786 : decode cL_law 786 = .ok (.iload 5, 2) := by decide +kernel
theorem dL_law_788 : decode cL_law 788 = .ok (.if_icmp .eq 5, 3) := by decide +kernel
theorem dL_law_791 : decode cL_law 791 = .ok (.iconst 0, 1) := by decide +kernel
theorem dL_law_792 : decode cL_law 792 = .ok (.ireturn, 1) := by decide +kernel
theorem dL_law_793 : decode cL_law 793 = .ok (.iload 5, 2) := by decide +kernel
theorem dL_law_795 : decode cL_law 795 = .ok (.ifCond .ne 15, 3) := by decide +kernel
theorem dL_law_798 : decode cL_law 798 = .ok (.aload_n 3, 1) := by decide +kernel
theorem dL_law_799 : decode cL_law 799 = .ok (.iconst 0, 1) := by decide +kernel
theorem dL_law_800 : decode cL_law 800 = .ok (.laload, 1) := by decide +kernel
theorem dL_law_801 : decode cL_law 801 = .ok (.iload 6, 2) := by decide +kernel
theorem dL_law_803 : decode cL_law 803 = .ok (.i2l, 1) := by decide +kernel
theorem dL_law_804 : decode cL_law 804 = .ok (.lcmp, 1) := by decide +kernel
theorem dL_law_805 : decode cL_law 805 = .ok (.ifCond .eq 5, 3) := by decide +kernel
theorem dL_law_808 : decode cL_law 808 = .ok (.iconst 0, 1) := by decide +kernel
theorem dL_law_809 : decode cL_law 809 = .ok (.ireturn, 1) := by decide +kernel
theorem dL_law_810 : decode cL_law 810 = .ok (.goto 84, 3) := by decide +kernel
theorem dL_law_813 : decode cL_law 813 = .ok (.aload_n 1, 1) := by decide +kernel
theorem dL_law_814 : decode cL_law 814 = .ok (.aload_n 0, 1) := by decide +kernel
theorem dL_law_815 : decode cL_law 815 = .ok (.iload 4, 2) := by decide +kernel
theorem dL_law_817 : decode cL_law 817 = .ok (.iconst 1, 1) := by decide +kernel
theorem dL_law_818 : decode cL_law 818 = .ok (.iadd, 1) := by decide +kernel
theorem dL_law_819 : decode cL_law 819 = .ok (.iaload, 1) := by decide +kernel
theorem dL_law_820 : decode cL_law 820 = .ok (.aload_n 3, 1) := by decide +kernel
theorem dL_law_821 : decode cL_law 821 = .ok (.invokestatic 108, 3) := by decide +kernel
theorem dL_law_824 : decode cL_law 824 = .ok (.istore 5, 2) := by decide +kernel
theorem dL_law_826 : decode cL_law 826 = .ok (.aload_n 2, 1) := by decide +kernel
theorem dL_law_827 : decode cL_law 827 = .ok (.aload_n 0, 1) := by decide +kernel
theorem dL_law_828 : decode cL_law 828 = .ok (.iload 4, 2) := by decide +kernel
theorem dL_law_830 : decode cL_law 830 = .ok (.iconst 1, 1) := by decide +kernel
theorem dL_law_831 : decode cL_law 831 = .ok (.iadd, 1) := by decide +kernel
theorem dL_law_832 : decode cL_law 832 = .ok (.iaload, 1) := by decide +kernel
theorem dL_law_833 : decode cL_law 833 = .ok (.invokevirtual 110, 3) := by decide +kernel
theorem dL_law_836 : decode cL_law 836 = .ok (.istore 6, 2) := by decide +kernel
theorem dL_law_838 : decode cL_law 838 = .ok (.aload_n 2, 1) := by decide +kernel
theorem dL_law_839 : decode cL_law 839 = .ok (.invokevirtual 65, 3) := by decide +kernel
theorem dL_law_842 : decode cL_law 842 = .ok (.iload 5, 2) := by decide +kernel
theorem dL_law_844 : decode cL_law 844 = .ok (.if_icmp .eq 5, 3) := by decide +kernel
theorem dL_law_847 : decode cL_law 847 = .ok (.iconst 0, 1) := by decide +kernel
theorem dL_law_848 : decode cL_law 848 = .ok (.ireturn, 1) := by decide +kernel
theorem dL_law_849 : decode cL_law 849 = .ok (.iload 5, 2) := by decide +kernel
theorem dL_law_851 : decode cL_law 851 = .ok (.ifCond .ne 15, 3) := by decide +kernel
theorem dL_law_854 : decode cL_law 854 = .ok (.aload_n 3, 1) := by decide +kernel
theorem dL_law_855 : decode cL_law 855 = .ok (.iconst 0, 1) := by decide +kernel
theorem dL_law_856 : decode cL_law 856 = .ok (.laload, 1) := by decide +kernel
theorem dL_law_857 : decode cL_law 857 = .ok (.iload 6, 2) := by decide +kernel
theorem dL_law_859 : decode cL_law 859 = .ok (.i2l, 1) := by decide +kernel
theorem dL_law_860 : decode cL_law 860 = .ok (.lcmp, 1) := by decide +kernel
theorem dL_law_861 : decode cL_law 861 = .ok (.ifCond .eq 5, 3) := by decide +kernel
theorem dL_law_864 : decode cL_law 864 = .ok (.iconst 0, 1) := by decide +kernel
theorem dL_law_865 : decode cL_law 865 = .ok (.ireturn, 1) := by decide +kernel
theorem dL_law_866 : decode cL_law 866 = .ok (.goto 28, 3) := by decide +kernel
theorem dL_law_869 : decode cL_law 869 = .ok (.aload_n 1, 1) := by decide +kernel
theorem dL_law_870 : decode cL_law 870 = .ok (.aload_n 0, 1) := by decide +kernel
theorem dL_law_871 : decode cL_law 871 = .ok (.iload 4, 2) := by decide +kernel
theorem dL_law_873 : decode cL_law 873 = .ok (.iconst 1, 1) := by decide +kernel
theorem dL_law_874 : decode cL_law 874 = .ok (.iadd, 1) := by decide +kernel
theorem dL_law_875 : decode cL_law 875 = .ok (.iaload, 1) := by decide +kernel
theorem dL_law_876 : decode cL_law 876 = .ok (.invokevirtual 111, 3) := by decide +kernel
theorem dL_law_879 : decode cL_law 879 = .ok (.aload_n 2, 1) := by decide +kernel
theorem dL_law_880 : decode cL_law 880 = .ok (.aload_n 0, 1) := by decide +kernel
theorem dL_law_881 : decode cL_law 881 = .ok (.iload 4, 2) := by decide +kernel
theorem dL_law_883 : decode cL_law 883 = .ok (.iconst 1, 1) := by decide +kernel
theorem dL_law_884 : decode cL_law 884 = .ok (.iadd, 1) := by decide +kernel
theorem dL_law_885 : decode cL_law 885 = .ok (.iaload, 1) := by decide +kernel
theorem dL_law_886 : decode cL_law 886 = .ok (.invokevirtual 114, 3) := by decide +kernel
theorem dL_law_889 : decode cL_law 889 = .ok (.if_icmp .eq 5, 3) := by decide +kernel
theorem dL_law_892 : decode cL_law 892 = .ok (.iconst 0, 1) := by decide +kernel
theorem dL_law_893 : decode cL_law 893 = .ok (.ireturn, 1) := by decide +kernel
theorem dL_law_894 : decode cL_law 894 = .ok (.iinc 4 4, 3) := by decide +kernel
theorem dL_law_897 : decode cL_law 897 = .ok (.goto (-854), 3) := by decide +kernel
theorem dL_law_900 : decode cL_law 900 = .ok (.iconst 1, 1) := by decide +kernel
theorem dL_law_901 : decode cL_law 901 = .ok (.ireturn, 1) := by decide +kernel
