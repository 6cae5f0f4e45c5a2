theorem dX4_init_0 : decode cX4_init 0 = .ok (.aload_n 0, 1) := by decide +kernel
theorem dX4_init_1 : decode cX4_init 1 = .ok (.invokespecial 3, 3) := by decide +kernel
theorem dX4_init_4 : decode cX4_init 4 = .ok (.aload_n 0, 1) := by decide +kernel
theorem dX4_init_5 : decode cX4_init 5 = .ok (.iconst 1, 1) := by decide +kernel
theorem dX4_init_6 : decode cX4_init 6 = .ok (.iload_n 1, 1) := by decide +kernel
theorem dX4_init_7 : decode cX4_init 7 = .ok (.iconst 1, 1) := by decide +kernel
theorem dX4_init_8 : decode cX4_init 8 = .ok (.isub, 1) := by decide +kernel
theorem dX4_init_9 : decode cX4_init 9 = .ok (.iconst 3, 1) := by decide +kernel
theorem dX4_init_10 : decode cX4_init 10 = .ok (.iand, 1) := by decide +kernel
theorem dX4_init_11 : decode cX4_init 11 = .ok (.iadd, 1) := by decide +kernel
theorem dX4_init_12 : decode cX4_init 12 = .ok (.putfield 9, 3) := by decide +kernel
theorem dX4_init_15 : decode cX4_init 15 = .ok (.aload_n 0, 1) := by decide +kernel
theorem dX4_init_16 : decode cX4_init 16 = .ok (.new 13, 3) := by decide +kernel
theorem dX4_init_19 : decode cX4_init 19 = .ok (.dup, 1) := by decide +kernel
theorem dX4_init_20 : decode cX4_init 20 = .ok (.invokespecial 15, 3) := by decide +kernel
theorem dX4_init_23 : decode cX4_init 23 = .ok (.putfield 16, 3) := by decide +kernel
theorem dX4_init_26 : decode cX4_init 26 = .ok (.aload_n 0, 1) := by decide +kernel
theorem dX4_init_27 : decode cX4_init 27 = .ok (.new 20, 3) := by decide +kernel
theorem dX4_init_30 : decode cX4_init 30 = .ok (.dup, 1) := by decide +kernel
theorem dX4_init_31 : decode cX4_init 31 = .ok (.aload_n 0, 1) := by decide +kernel
theorem dX4_init_32 : decode cX4_init 32 = .ok (.getfield 16, 3) := by decide +kernel
theorem dX4_init_35 : decode cX4_init 35 = .ok (.aload_n 0, 1) := by decide +kernel
theorem dX4_init_36 : decode cX4_init 36 = .ok (.getfield 9, 3) := by decide +kernel
theorem dX4_init_39 : decode cX4_init 39 = .ok (.invokespecial 22, 3) := by decide +kernel
theorem dX4_init_42 : decode cX4_init 42 = .ok (.putfield 25, 3) := by decide +kernel
theorem dX4_init_45 : decode cX4_init 45 = .ok (.aload_n 0, 1) := by decide +kernel
theorem dX4_init_46 : decode cX4_init 46 = .ok (.new 29, 3) := by decide +kernel
theorem dX4_init_49 : decode cX4_init 49 = .ok (.dup, 1) := by decide +kernel
theorem dX4_init_50 : decode cX4_init 50 = .ok (.iconst 1, 1) := by decide +kernel
theorem dX4_init_51 : decode cX4_init 51 = .ok (.iload_n 2, 1) := by decide +kernel
theorem dX4_init_52 : decode cX4_init 52 = .ok (.iconst 1, 1) := by decide +kernel
theorem dX4_init_53 : decode cX4_init 53 = .ok (.isub, 1) := by decide +kernel
theorem dX4_init_54 : decode cX4_init 54 = .ok (.bipush 31, 2) := by decide +kernel
theorem dX4_init_56 : decode cX4_init 56 = .ok (.iand, 1) := by decide +kernel
theorem dX4_init_57 : decode cX4_init 57 = .ok (.iadd, 1) := by decide +kernel
theorem dX4_init_58 : decode cX4_init 58 = .ok (.invokespecial 31, 3) := by decide +kernel
theorem dX4_init_61 : decode cX4_init 61 = .ok (.putfield 34, 3) := by decide +kernel
theorem dX4_init_64 : decode cX4_init 64 = .ok (.aload_n 0, 1) := by decide +kernel
theorem dX4_init_65 : decode cX4_init 65 = .ok (.iconst 4, 1) := by decide +kernel
theorem dX4_init_66 : decode cX4_init 66 = .ok (.newarray .int, 2) := by decide +kernel
theorem dX4_init_68 : decode cX4_init 68 = .ok (.putfield 38, 3) := by decide +kernel
theorem dX4_init_71 : decode cX4_init 71 = .ok (.iconst 0, 1) := by decide +kernel
theorem dX4_init_72 : decode cX4_init 72 = .ok (.istore_n 3, 1) := by decide +kernel
theorem dX4_init_73 : decode cX4_init 73 = .ok (.iload_n 3, 1) := by decide +kernel
theorem dX4_init_74 : decode cX4_init 74 = .ok (.iconst 4, 1) := by decide +kernel
theorem dX4_init_75 : decode cX4_init 75 = .ok (.if_icmp .ge 16, 3) := by decide +kernel
theorem dX4_init_78 : decode cX4_init 78 = .ok (.aload_n 0, 1) := by decide +kernel
theorem dX4_init_79 : decode cX4_init 79 = .ok (.getfield 38, 3) := by decide +kernel
theorem dX4_init_82 : decode cX4_init 82 = .ok (.iload_n 3, 1) := by decide +kernel
theorem dX4_init_83 : decode cX4_init 83 = .ok (.iload_n 3, 1) := by decide +kernel
theorem dX4_init_84 : decode cX4_init 84 = .ok (.iastore, 1) := by decide +kernel
theorem dX4_init_85 : decode cX4_init 85 = .ok (.iinc 3 1, 3) := by decide +kernel
theorem dX4_init_88 : decode cX4_init 88 = .ok (.goto (-15), 3) := by decide +kernel
theorem dX4_init_91 : decode cX4_init 91 = .ok (.aload_n 0, 1) := by decide +kernel
theorem dX4_init_92 : decode cX4_init 92 = .ok (.iconst 0, 1) := by decide +kernel
theorem dX4_init_93 : decode cX4_init 93 = .ok (.putfield 42, 3) := by decide +kernel
theorem dX4_init_96 : decode cX4_init 96 = .ok (.aload_n 0, 1) := by decide +kernel
theorem dX4_init_97 : decode cX4_init 97 = .ok (.iconst (-1), 1) := by decide +kernel
theorem dX4_init_98 : decode cX4_init 98 = .ok (.putfield 45, 3) := by decide +kernel
theorem dX4_init_101 : decode cX4_init 101 = .ok (.aload_n 0, 1) := by decide +kernel
theorem dX4_init_102 : decode cX4_init 102 = .ok (.iconst (-1), 1) := by decide +kernel
theorem dX4_init_103 : decode cX4_init 103 = .ok (.putfield 48, 3) := by decide +kernel
theorem dX4_init_106 : decode cX4_init 106 = .ok (.return_, 1) := by decide +kernel
theorem dX4_table_0 : decode cX4_table 0 = .ok (.iload_n 1, 1) := by decide +kernel
theorem dX4_table_1 : decode cX4_table 1 = .ok (.ifCond .lt 10, 3) := by decide +kernel
theorem dX4_table_4 : decode cX4_table 4 = .ok (.iload_n 1, 1) := by decide +kernel
theorem dX4_table_5 : decode cX4_table 5 = .ok (.sipush 4096, 3) := by decide +kernel
theorem dX4_table_8 : decode cX4_table 8 = .ok (.if_icmp .lt 13, 3) := by decide +kernel
theorem dX4_table_11 : decode cX4_table 11 = .ok (.new 51, 3) := by decide +kernel
theorem dX4_table_14 : decode cX4_table 14 = .ok (.dup, 1) := by decide +kernel
theorem dX4_table_15 : decode cX4_table 15 = .ok (.ldc 53, 2) := by decide +kernel
theorem dX4_table_17 : decode cX4_table 17 = .ok (.invokespecial 55, 3) := by decide +kernel
theorem dX4_table_20 : decode cX4_table 20 = .ok (.athrow, 1) := by decide +kernel
theorem dX4_table_21 : decode cX4_table 21 = .ok (.aload_n 0, 1) := by decide +kernel
theorem dX4_table_22 : decode cX4_table 22 = .ok (.getfield 16, 3) := by decide +kernel
theorem dX4_table_25 : decode cX4_table 25 = .ok (.getfield 58, 3) := by decide +kernel
theorem dX4_table_28 : decode cX4_table 28 = .ok (.iload_n 1, 1) := by decide +kernel
theorem dX4_table_29 : decode cX4_table 29 = .ok (.laload, 1) := by decide +kernel
theorem dX4_table_30 : decode cX4_table 30 = .ok (.lstore 4, 2) := by decide +kernel
theorem dX4_table_32 : decode cX4_table 32 = .ok (.aload_n 0, 1) := by decide +kernel
theorem dX4_table_33 : decode cX4_table 33 = .ok (.getfield 16, 3) := by decide +kernel
theorem dX4_table_36 : decode cX4_table 36 = .ok (.getfield 58, 3) := by decide +kernel
theorem dX4_table_39 : decode cX4_table 39 = .ok (.iload_n 1, 1) := by decide +kernel
theorem dX4_table_40 : decode cX4_table 40 = .ok (.lload_n 2, 1) := by decide +kernel
theorem dX4_table_41 : decode cX4_table 41 = .ok (.lastore, 1) := by decide +kernel
theorem dX4_table_42 : decode cX4_table 42 = .ok (.lload 4, 2) := by decide +kernel
theorem dX4_table_44 : decode cX4_table 44 = .ok (.lreturn, 1) := by decide +kernel
theorem dX4_word_0 : decode cX4_word 0 = .ok (.iload_n 1, 1) := by decide +kernel
theorem dX4_word_1 : decode cX4_word 1 = .ok (.ifCond .lt 10, 3) := by decide +kernel
theorem dX4_word_4 : decode cX4_word 4 = .ok (.iload_n 1, 1) := by decide +kernel
theorem dX4_word_5 : decode cX4_word 5 = .ok (.sipush 4096, 3) := by decide +kernel
theorem dX4_word_8 : decode cX4_word 8 = .ok (.if_icmp .lt 13, 3) := by decide +kernel
theorem dX4_word_11 : decode cX4_word 11 = .ok (.new 51, 3) := by decide +kernel
theorem dX4_word_14 : decode cX4_word 14 = .ok (.dup, 1) := by decide +kernel
theorem dX4_word_15 : decode cX4_word 15 = .ok (.ldc 53, 2) := by decide +kernel
theorem dX4_word_17 : decode cX4_word 17 = .ok (.invokespecial 55, 3) := by decide +kernel
theorem dX4_word_20 : decode cX4_word 20 = .ok (.athrow, 1) := by decide +kernel
theorem dX4_word_21 : decode cX4_word 21 = .ok (.aload_n 0, 1) := by decide +kernel
theorem dX4_word_22 : decode cX4_word 22 = .ok (.getfield 16, 3) := by decide +kernel
theorem dX4_word_25 : decode cX4_word 25 = .ok (.getfield 58, 3) := by decide +kernel
theorem dX4_word_28 : decode cX4_word 28 = .ok (.iload_n 1, 1) := by decide +kernel
theorem dX4_word_29 : decode cX4_word 29 = .ok (.laload, 1) := by decide +kernel
theorem dX4_word_30 : decode cX4_word 30 = .ok (.lreturn, 1) := by decide +kernel
theorem dX4_context_0 : decode cX4_context 0 = .ok (.iload_n 1, 1) := by decide +kernel
theorem dX4_context_1 : decode cX4_context 1 = .ok (.ifCond .lt 8, 3) := by decide +kernel
theorem dX4_context_4 : decode cX4_context 4 = .ok (.iload_n 1, 1) := by decide +kernel
theorem dX4_context_5 : decode cX4_context 5 = .ok (.iconst 4, 1) := by decide +kernel
theorem dX4_context_6 : decode cX4_context 6 = .ok (.if_icmp .lt 13, 3) := by decide +kernel
theorem dX4_context_9 : decode cX4_context 9 = .ok (.new 51, 3) := by decide +kernel
theorem dX4_context_12 : decode cX4_context 12 = .ok (.dup, 1) := by decide +kernel
theorem dX4_context_13 : decode cX4_context 13 = .ok (.ldc 62, 2) := by decide +kernel
theorem dX4_context_15 : decode cX4_context 15 = .ok (.invokespecial 55, 3) := by decide +kernel
theorem dX4_context_18 : decode cX4_context 18 = .ok (.athrow, 1) := by decide +kernel
theorem dX4_context_19 : decode cX4_context 19 = .ok (.aload_n 0, 1) := by decide +kernel
theorem dX4_context_20 : decode cX4_context 20 = .ok (.getfield 42, 3) := by decide +kernel
theorem dX4_context_23 : decode cX4_context 23 = .ok (.istore_n 2, 1) := by decide +kernel
theorem dX4_context_24 : decode cX4_context 24 = .ok (.aload_n 0, 1) := by decide +kernel
theorem dX4_context_25 : decode cX4_context 25 = .ok (.iload_n 1, 1) := by decide +kernel
theorem dX4_context_26 : decode cX4_context 26 = .ok (.putfield 42, 3) := by decide +kernel
theorem dX4_context_29 : decode cX4_context 29 = .ok (.iload_n 2, 1) := by decide +kernel
theorem dX4_context_30 : decode cX4_context 30 = .ok (.ireturn, 1) := by decide +kernel
theorem dX4_root_0 : decode cX4_root 0 = .ok (.iload_n 1, 1) := by decide +kernel
theorem dX4_root_1 : decode cX4_root 1 = .ok (.ifCond .lt 8, 3) := by decide +kernel
theorem dX4_root_4 : decode cX4_root 4 = .ok (.iload_n 1, 1) := by decide +kernel
theorem dX4_root_5 : decode cX4_root 5 = .ok (.iconst 4, 1) := by decide +kernel
theorem dX4_root_6 : decode cX4_root 6 = .ok (.if_icmp .lt 13, 3) := by decide +kernel
theorem dX4_root_9 : decode cX4_root 9 = .ok (.new 51, 3) := by decide +kernel
theorem dX4_root_12 : decode cX4_root 12 = .ok (.dup, 1) := by decide +kernel
theorem dX4_root_13 : decode cX4_root 13 = .ok (.ldc 62, 2) := by decide +kernel
theorem dX4_root_15 : decode cX4_root 15 = .ok (.invokespecial 55, 3) := by decide +kernel
theorem dX4_root_18 : decode cX4_root 18 = .ok (.athrow, 1) := by decide +kernel
theorem dX4_root_19 : decode cX4_root 19 = .ok (.iload_n 2, 1) := by decide +kernel
theorem dX4_root_20 : decode cX4_root 20 = .ok (.ifCond .lt 10, 3) := by decide +kernel
theorem dX4_root_23 : decode cX4_root 23 = .ok (.iload_n 2, 1) := by decide +kernel
theorem dX4_root_24 : decode cX4_root 24 = .ok (.sipush 256, 3) := by decide +kernel
theorem dX4_root_27 : decode cX4_root 27 = .ok (.if_icmp .lt 13, 3) := by decide +kernel
theorem dX4_root_30 : decode cX4_root 30 = .ok (.new 64, 3) := by decide +kernel
theorem dX4_root_33 : decode cX4_root 33 = .ok (.dup, 1) := by decide +kernel
theorem dX4_root_34 : decode cX4_root 34 = .ok (.ldc 66, 2) := by decide +kernel
theorem dX4_root_36 : decode cX4_root 36 = .ok (.invokespecial 68, 3) := by decide +kernel
theorem dX4_root_39 : decode cX4_root 39 = .ok (.athrow, 1) := by decide +kernel
theorem dX4_root_40 : decode cX4_root 40 = .ok (.aload_n 0, 1) := by decide +kernel
theorem dX4_root_41 : decode cX4_root 41 = .ok (.getfield 38, 3) := by decide +kernel
theorem dX4_root_44 : decode cX4_root 44 = .ok (.iload_n 1, 1) := by decide +kernel
theorem dX4_root_45 : decode cX4_root 45 = .ok (.iaload, 1) := by decide +kernel
theorem dX4_root_46 : decode cX4_root 46 = .ok (.istore_n 3, 1) := by decide +kernel
theorem dX4_root_47 : decode cX4_root 47 = .ok (.aload_n 0, 1) := by decide +kernel
theorem dX4_root_48 : decode cX4_root 48 = .ok (.getfield 38, 3) := by decide +kernel
theorem dX4_root_51 : decode cX4_root 51 = .ok (.iload_n 1, 1) := by decide +kernel
theorem dX4_root_52 : decode cX4_root 52 = .ok (.iload_n 2, 1) := by decide +kernel
theorem dX4_root_53 : decode cX4_root 53 = .ok (.iastore, 1) := by decide +kernel
theorem dX4_root_54 : decode cX4_root 54 = .ok (.iload_n 3, 1) := by decide +kernel
theorem dX4_root_55 : decode cX4_root 55 = .ok (.ireturn, 1) := by decide +kernel
theorem dX4_host_0 : decode cX4_host 0 = .ok (.iload_n 1, 1) := by decide +kernel
theorem dX4_host_1 : decode cX4_host 1 = .ok (.ifCond .lt 10, 3) := by decide +kernel
theorem dX4_host_4 : decode cX4_host 4 = .ok (.iload_n 1, 1) := by decide +kernel
theorem dX4_host_5 : decode cX4_host 5 = .ok (.sipush 256, 3) := by decide +kernel
theorem dX4_host_8 : decode cX4_host 8 = .ok (.if_icmp .lt 13, 3) := by decide +kernel
theorem dX4_host_11 : decode cX4_host 11 = .ok (.new 51, 3) := by decide +kernel
theorem dX4_host_14 : decode cX4_host 14 = .ok (.dup, 1) := by decide +kernel
theorem dX4_host_15 : decode cX4_host 15 = .ok (.ldc 66, 2) := by decide +kernel
theorem dX4_host_17 : decode cX4_host 17 = .ok (.invokespecial 55, 3) := by decide +kernel
theorem dX4_host_20 : decode cX4_host 20 = .ok (.athrow, 1) := by decide +kernel
theorem dX4_host_21 : decode cX4_host 21 = .ok (.iload_n 2, 1) := by decide +kernel
theorem dX4_host_22 : decode cX4_host 22 = .ok (.iconst (-1), 1) := by decide +kernel
theorem dX4_host_23 : decode cX4_host 23 = .ok (.if_icmp .lt 9, 3) := by decide +kernel
theorem dX4_host_26 : decode cX4_host 26 = .ok (.iload_n 2, 1) := by decide +kernel
theorem dX4_host_27 : decode cX4_host 27 = .ok (.ldc 69, 2) := by decide +kernel
theorem dX4_host_29 : decode cX4_host 29 = .ok (.if_icmp .le 13, 3) := by decide +kernel
theorem dX4_host_32 : decode cX4_host 32 = .ok (.new 64, 3) := by decide +kernel
theorem dX4_host_35 : decode cX4_host 35 = .ok (.dup, 1) := by decide +kernel
theorem dX4_host_36 : decode cX4_host 36 = .ok (.ldc 70, 2) := by decide +kernel
theorem dX4_host_38 : decode cX4_host 38 = .ok (.invokespecial 68, 3) := by decide +kernel
theorem dX4_host_41 : decode cX4_host 41 = .ok (.athrow, 1) := by decide +kernel
theorem dX4_host_42 : decode cX4_host 42 = .ok (.aload_n 0, 1) := by decide +kernel
theorem dX4_host_43 : decode cX4_host 43 = .ok (.getfield 16, 3) := by decide +kernel
theorem dX4_host_46 : decode cX4_host 46 = .ok (.getfield 72, 3) := by decide +kernel
theorem dX4_host_49 : decode cX4_host 49 = .ok (.iload_n 1, 1) := by decide +kernel
theorem dX4_host_50 : decode cX4_host 50 = .ok (.iaload, 1) := by decide +kernel
theorem dX4_host_51 : decode cX4_host 51 = .ok (.istore_n 3, 1) := by decide +kernel
theorem dX4_host_52 : decode cX4_host 52 = .ok (.aload_n 0, 1) := by decide +kernel
theorem dX4_host_53 : decode cX4_host 53 = .ok (.getfield 16, 3) := by decide +kernel
theorem dX4_host_56 : decode cX4_host 56 = .ok (.getfield 72, 3) := by decide +kernel
theorem dX4_host_59 : decode cX4_host 59 = .ok (.iload_n 1, 1) := by decide +kernel
theorem dX4_host_60 : decode cX4_host 60 = .ok (.iload_n 2, 1) := by decide +kernel
theorem dX4_host_61 : decode cX4_host 61 = .ok (.iastore, 1) := by decide +kernel
theorem dX4_host_62 : decode cX4_host 62 = .ok (.iload_n 3, 1) := by decide +kernel
theorem dX4_host_63 : decode cX4_host 63 = .ok (.ireturn, 1) := by decide +kernel
theorem dX4_hosts_0 : decode cX4_hosts 0 = .ok (.aload_n 0, 1) := by decide +kernel
theorem dX4_hosts_1 : decode cX4_hosts 1 = .ok (.getfield 16, 3) := by decide +kernel
theorem dX4_hosts_4 : decode cX4_hosts 4 = .ok (.getfield 75, 3) := by decide +kernel
theorem dX4_hosts_7 : decode cX4_hosts 7 = .ok (.istore_n 2, 1) := by decide +kernel
theorem dX4_hosts_8 : decode cX4_hosts 8 = .ok (.aload_n 0, 1) := by decide +kernel
theorem dX4_hosts_9 : decode cX4_hosts 9 = .ok (.getfield 16, 3) := by decide +kernel
theorem dX4_hosts_12 : decode cX4_hosts 12 = .ok (.iload_n 1, 1) := by decide +kernel
theorem dX4_hosts_13 : decode cX4_hosts 13 = .ok (.putfield 75, 3) := by decide +kernel
theorem dX4_hosts_16 : decode cX4_hosts 16 = .ok (.iload_n 2, 1) := by decide +kernel
theorem dX4_hosts_17 : decode cX4_hosts 17 = .ok (.ireturn, 1) := by decide +kernel
theorem dX4_walk_0 : decode cX4_walk 0 = .ok (.iload_n 2, 1) := by decide +kernel
theorem dX4_walk_1 : decode cX4_walk 1 = .ok (.invokestatic 79, 3) := by decide +kernel
theorem dX4_walk_4 : decode cX4_walk 4 = .ok (.ifCond .ne 13, 3) := by decide +kernel
theorem dX4_walk_7 : decode cX4_walk 7 = .ok (.new 64, 3) := by decide +kernel
theorem dX4_walk_10 : decode cX4_walk 10 = .ok (.dup, 1) := by decide +kernel
theorem dX4_walk_11 : decode cX4_walk 11 = .ok (.ldc 83, 2) := by decide +kernel
theorem dX4_walk_13 : decode cX4_walk 13 = .ok (.invokespecial 68, 3) := by decide +kernel
theorem dX4_walk_16 : decode cX4_walk 16 = .ok (.athrow, 1) := by decide +kernel
theorem dX4_walk_17 : decode cX4_walk 17 = .ok (.aload_n 0, 1) := by decide +kernel
theorem dX4_walk_18 : decode cX4_walk 18 = .ok (.getfield 34, 3) := by decide +kernel
theorem dX4_walk_21 : decode cX4_walk 21 = .ok (.aload_n 0, 1) := by decide +kernel
theorem dX4_walk_22 : decode cX4_walk 22 = .ok (.getfield 42, 3) := by decide +kernel
theorem dX4_walk_25 : decode cX4_walk 25 = .ok (.iload_n 1, 1) := by decide +kernel
theorem dX4_walk_26 : decode cX4_walk 26 = .ok (.invokevirtual 85, 3) := by decide +kernel
theorem dX4_walk_29 : decode cX4_walk 29 = .ok (.istore_n 3, 1) := by decide +kernel
theorem dX4_walk_30 : decode cX4_walk 30 = .ok (.iload_n 3, 1) := by decide +kernel
theorem dX4_walk_31 : decode cX4_walk 31 = .ok (.iconst (-1), 1) := by decide +kernel
theorem dX4_walk_32 : decode cX4_walk 32 = .ok (.if_icmp .eq 19, 3) := by decide +kernel
theorem dX4_walk_35 : decode cX4_walk 35 = .ok (.aload_n 0, 1) := by decide +kernel
theorem dX4_walk_36 : decode cX4_walk 36 = .ok (.getfield 34, 3) := by decide +kernel
theorem dX4_walk_39 : decode cX4_walk 39 = .ok (.getfield 89, 3) := by decide +kernel
theorem dX4_walk_42 : decode cX4_walk 42 = .ok (.iload_n 3, 1) := by decide +kernel
theorem dX4_walk_43 : decode cX4_walk 43 = .ok (.aaload, 1) := by decide +kernel
theorem dX4_walk_44 : decode cX4_walk 44 = .ok (.iload_n 2, 1) := by decide +kernel
theorem dX4_walk_45 : decode cX4_walk 45 = .ok (.invokestatic 93, 3) := by decide +kernel
theorem dX4_walk_48 : decode cX4_walk 48 = .ok (.ifCond .eq 10, 3) := by decide +kernel
theorem dX4_walk_51 : decode cX4_walk 51 = .ok (.aload_n 0, 1) := by decide +kernel
theorem dX4_walk_52 : decode cX4_walk 52 = .ok (.iload_n 1, 1) := by decide +kernel
theorem dX4_walk_53 : decode cX4_walk 53 = .ok (.iload_n 2, 1) := by decide +kernel
theorem dX4_walk_54 : decode cX4_walk 54 = .ok (.invokevirtual 97, 3) := by decide +kernel
theorem dX4_walk_57 : decode cX4_walk 57 = .ok (.ireturn, 1) := by decide +kernel
theorem dX4_walk_58 : decode cX4_walk 58 = .ok (.aload_n 0, 1) := by decide +kernel
theorem dX4_walk_59 : decode cX4_walk 59 = .ok (.iload_n 3, 1) := by decide +kernel
theorem dX4_walk_60 : decode cX4_walk 60 = .ok (.iload_n 1, 1) := by decide +kernel
theorem dX4_walk_61 : decode cX4_walk 61 = .ok (.iload_n 2, 1) := by decide +kernel
theorem dX4_walk_62 : decode cX4_walk 62 = .ok (.invokevirtual 100, 3) := by decide +kernel
theorem dX4_walk_65 : decode cX4_walk 65 = .ok (.ireturn, 1) := by decide +kernel
theorem dX4_to_0 : decode cX4_to 0 = .ok (.aload_n 0, 1) := by decide +kernel
theorem dX4_to_1 : decode cX4_to 1 = .ok (.getfield 45, 3) := by decide +kernel
theorem dX4_to_4 : decode cX4_to 4 = .ok (.ireturn, 1) := by decide +kernel
theorem dX4_level_0 : decode cX4_level 0 = .ok (.aload_n 0, 1) := by decide +kernel
theorem dX4_level_1 : decode cX4_level 1 = .ok (.getfield 48, 3) := by decide +kernel
theorem dX4_level_4 : decode cX4_level 4 = .ok (.ireturn, 1) := by decide +kernel
theorem dX4_plain_0 : decode cX4_plain 0 = .ok (.iload_n 2, 1) := by decide +kernel
theorem dX4_plain_1 : decode cX4_plain 1 = .ok (.invokestatic 79, 3) := by decide +kernel
theorem dX4_plain_4 : decode cX4_plain 4 = .ok (.ifCond .ne 13, 3) := by decide +kernel
theorem dX4_plain_7 : decode cX4_plain 7 = .ok (.new 64, 3) := by decide +kernel
theorem dX4_plain_10 : decode cX4_plain 10 = .ok (.dup, 1) := by decide +kernel
theorem dX4_plain_11 : decode cX4_plain 11 = .ok (.ldc 83, 2) := by decide +kernel
theorem dX4_plain_13 : decode cX4_plain 13 = .ok (.invokespecial 68, 3) := by decide +kernel
theorem dX4_plain_16 : decode cX4_plain 16 = .ok (.athrow, 1) := by decide +kernel
theorem dX4_plain_17 : decode cX4_plain 17 = .ok (.aload_n 0, 1) := by decide +kernel
theorem dX4_plain_18 : decode cX4_plain 18 = .ok (.getfield 25, 3) := by decide +kernel
theorem dX4_plain_21 : decode cX4_plain 21 = .ok (.aload_n 0, 1) := by decide +kernel
theorem dX4_plain_22 : decode cX4_plain 22 = .ok (.getfield 38, 3) := by decide +kernel
theorem dX4_plain_25 : decode cX4_plain 25 = .ok (.aload_n 0, 1) := by decide +kernel
theorem dX4_plain_26 : decode cX4_plain 26 = .ok (.getfield 42, 3) := by decide +kernel
theorem dX4_plain_29 : decode cX4_plain 29 = .ok (.iaload, 1) := by decide +kernel
theorem dX4_plain_30 : decode cX4_plain 30 = .ok (.iload_n 1, 1) := by decide +kernel
theorem dX4_plain_31 : decode cX4_plain 31 = .ok (.iload_n 2, 1) := by decide +kernel
theorem dX4_plain_32 : decode cX4_plain 32 = .ok (.invokevirtual 104, 3) := by decide +kernel
theorem dX4_plain_35 : decode cX4_plain 35 = .ok (.istore_n 3, 1) := by decide +kernel
theorem dX4_plain_36 : decode cX4_plain 36 = .ok (.iload_n 3, 1) := by decide +kernel
theorem dX4_plain_37 : decode cX4_plain 37 = .ok (.ifCond .ne 13, 3) := by decide +kernel
theorem dX4_plain_40 : decode cX4_plain 40 = .ok (.aload_n 0, 1) := by decide +kernel
theorem dX4_plain_41 : decode cX4_plain 41 = .ok (.getfield 25, 3) := by decide +kernel
theorem dX4_plain_44 : decode cX4_plain 44 = .ok (.getfield 107, 3) := by decide +kernel
theorem dX4_plain_47 : decode cX4_plain 47 = .ok (.goto 5, 3) := by decide +kernel
theorem dX4_plain_50 : decode cX4_plain 50 = .ok (.iload_n 3, 1) := by decide +kernel
theorem dX4_plain_51 : decode cX4_plain 51 = .ok (.ineg, 1) := by decide +kernel
theorem dX4_plain_52 : decode cX4_plain 52 = .ok (.ireturn, 1) := by decide +kernel
theorem dX4_flush_0 : decode cX4_flush 0 = .ok (.iload_n 1, 1) := by decide +kernel
theorem dX4_flush_1 : decode cX4_flush 1 = .ok (.ifCond .lt 8, 3) := by decide +kernel
theorem dX4_flush_4 : decode cX4_flush 4 = .ok (.iload_n 1, 1) := by decide +kernel
theorem dX4_flush_5 : decode cX4_flush 5 = .ok (.iconst 2, 1) := by decide +kernel
theorem dX4_flush_6 : decode cX4_flush 6 = .ok (.if_icmp .le 13, 3) := by decide +kernel
theorem dX4_flush_9 : decode cX4_flush 9 = .ok (.new 64, 3) := by decide +kernel
theorem dX4_flush_12 : decode cX4_flush 12 = .ok (.dup, 1) := by decide +kernel
theorem dX4_flush_13 : decode cX4_flush 13 = .ok (.ldc 110, 2) := by decide +kernel
theorem dX4_flush_15 : decode cX4_flush 15 = .ok (.invokespecial 68, 3) := by decide +kernel
theorem dX4_flush_18 : decode cX4_flush 18 = .ok (.athrow, 1) := by decide +kernel
theorem dX4_flush_19 : decode cX4_flush 19 = .ok (.aload_n 0, 1) := by decide +kernel
theorem dX4_flush_20 : decode cX4_flush 20 = .ok (.getfield 34, 3) := by decide +kernel
theorem dX4_flush_23 : decode cX4_flush 23 = .ok (.iload_n 1, 1) := by decide +kernel
theorem dX4_flush_24 : decode cX4_flush 24 = .ok (.aload_n 0, 1) := by decide +kernel
theorem dX4_flush_25 : decode cX4_flush 25 = .ok (.getfield 42, 3) := by decide +kernel
theorem dX4_flush_28 : decode cX4_flush 28 = .ok (.iload_n 2, 1) := by decide +kernel
theorem dX4_flush_29 : decode cX4_flush 29 = .ok (.invokevirtual 112, 3) := by decide +kernel
theorem dX4_flush_32 : decode cX4_flush 32 = .ok (.ireturn, 1) := by decide +kernel
theorem dX4_kept_0 : decode cX4_kept 0 = .ok (.iload_n 1, 1) := by decide +kernel
theorem dX4_kept_1 : decode cX4_kept 1 = .ok (.ifCond .lt 14, 3) := by decide +kernel
theorem dX4_kept_4 : decode cX4_kept 4 = .ok (.iload_n 1, 1) := by decide +kernel
theorem dX4_kept_5 : decode cX4_kept 5 = .ok (.aload_n 0, 1) := by decide +kernel
theorem dX4_kept_6 : decode cX4_kept 6 = .ok (.getfield 34, 3) := by decide +kernel
theorem dX4_kept_9 : decode cX4_kept 9 = .ok (.getfield 115, 3) := by decide +kernel
theorem dX4_kept_12 : decode cX4_kept 12 = .ok (.if_icmp .lt 13, 3) := by decide +kernel
theorem dX4_kept_15 : decode cX4_kept 15 = .ok (.new 51, 3) := by decide +kernel
theorem dX4_kept_18 : decode cX4_kept 18 = .ok (.dup, 1) := by decide +kernel
theorem dX4_kept_19 : decode cX4_kept 19 = .ok (.ldc 118, 2) := by decide +kernel
theorem dX4_kept_21 : decode cX4_kept 21 = .ok (.invokespecial 55, 3) := by decide +kernel
theorem dX4_kept_24 : decode cX4_kept 24 = .ok (.athrow, 1) := by decide +kernel
theorem dX4_kept_25 : decode cX4_kept 25 = .ok (.iload_n 2, 1) := by decide +kernel
theorem dX4_kept_26 : decode cX4_kept 26 = .ok (.ifCond .lt 9, 3) := by decide +kernel
theorem dX4_kept_29 : decode cX4_kept 29 = .ok (.iload_n 2, 1) := by decide +kernel
theorem dX4_kept_30 : decode cX4_kept 30 = .ok (.bipush 6, 2) := by decide +kernel
theorem dX4_kept_32 : decode cX4_kept 32 = .ok (.if_icmp .lt 13, 3) := by decide +kernel
theorem dX4_kept_35 : decode cX4_kept 35 = .ok (.new 51, 3) := by decide +kernel
theorem dX4_kept_38 : decode cX4_kept 38 = .ok (.dup, 1) := by decide +kernel
theorem dX4_kept_39 : decode cX4_kept 39 = .ok (.ldc 120, 2) := by decide +kernel
theorem dX4_kept_41 : decode cX4_kept 41 = .ok (.invokespecial 55, 3) := by decide +kernel
theorem dX4_kept_44 : decode cX4_kept 44 = .ok (.athrow, 1) := by decide +kernel
theorem dX4_kept_45 : decode cX4_kept 45 = .ok (.aload_n 0, 1) := by decide +kernel
theorem dX4_kept_46 : decode cX4_kept 46 = .ok (.getfield 34, 3) := by decide +kernel
theorem dX4_kept_49 : decode cX4_kept 49 = .ok (.getfield 89, 3) := by decide +kernel
theorem dX4_kept_52 : decode cX4_kept 52 = .ok (.iload_n 1, 1) := by decide +kernel
theorem dX4_kept_53 : decode cX4_kept 53 = .ok (.aaload, 1) := by decide +kernel
theorem dX4_kept_54 : decode cX4_kept 54 = .ok (.iload_n 2, 1) := by decide +kernel
theorem dX4_kept_55 : decode cX4_kept 55 = .ok (.invokevirtual 122, 3) := by decide +kernel
theorem dX4_kept_58 : decode cX4_kept 58 = .ok (.ireturn, 1) := by decide +kernel
theorem dX4_stale_0 : decode cX4_stale 0 = .ok (.iload_n 1, 1) := by decide +kernel
theorem dX4_stale_1 : decode cX4_stale 1 = .ok (.invokestatic 79, 3) := by decide +kernel
theorem dX4_stale_4 : decode cX4_stale 4 = .ok (.ifCond .ne 13, 3) := by decide +kernel
theorem dX4_stale_7 : decode cX4_stale 7 = .ok (.new 64, 3) := by decide +kernel
theorem dX4_stale_10 : decode cX4_stale 10 = .ok (.dup, 1) := by decide +kernel
theorem dX4_stale_11 : decode cX4_stale 11 = .ok (.ldc 83, 2) := by decide +kernel
theorem dX4_stale_13 : decode cX4_stale 13 = .ok (.invokespecial 68, 3) := by decide +kernel
theorem dX4_stale_16 : decode cX4_stale 16 = .ok (.athrow, 1) := by decide +kernel
theorem dX4_stale_17 : decode cX4_stale 17 = .ok (.iconst 0, 1) := by decide +kernel
theorem dX4_stale_18 : decode cX4_stale 18 = .ok (.istore_n 2, 1) := by decide +kernel
theorem dX4_stale_19 : decode cX4_stale 19 = .ok (.iconst 0, 1) := by decide +kernel
theorem dX4_stale_20 : decode cX4_stale 20 = .ok (.istore_n 3, 1) := by decide +kernel
theorem dX4_stale_21 : decode cX4_stale 21 = .ok (.iload_n 3, 1) := by decide +kernel
theorem dX4_stale_22 : decode cX4_stale 22 = .ok (.aload_n 0, 1) := by decide +kernel
theorem dX4_stale_23 : decode cX4_stale 23 = .ok (.getfield 34, 3) := by decide +kernel
theorem dX4_stale_26 : decode cX4_stale 26 = .ok (.getfield 115, 3) := by decide +kernel
theorem dX4_stale_29 : decode cX4_stale 29 = .ok (.if_icmp .ge 45, 3) := by decide +kernel
theorem dX4_stale_32 : decode cX4_stale 32 = .ok (.aload_n 0, 1) := by decide +kernel
theorem dX4_stale_33 : decode cX4_stale 33 = .ok (.getfield 34, 3) := by decide +kernel
theorem dX4_stale_36 : decode cX4_stale 36 = .ok (.getfield 89, 3) := by decide +kernel
theorem dX4_stale_39 : decode cX4_stale 39 = .ok (.iload_n 3, 1) := by decide +kernel
theorem dX4_stale_40 : decode cX4_stale 40 = .ok (.aaload, 1) := by decide +kernel
theorem dX4_stale_41 : decode cX4_stale 41 = .ok (.astore 4, 2) := by decide +kernel
theorem dX4_stale_43 : decode cX4_stale 43 = .ok (.aload 4, 2) := by decide +kernel
theorem dX4_stale_45 : decode cX4_stale 45 = .ok (.getfield 128, 3) := by decide +kernel
theorem dX4_stale_48 : decode cX4_stale 48 = .ok (.aload_n 0, 1) := by decide +kernel
theorem dX4_stale_49 : decode cX4_stale 49 = .ok (.getfield 42, 3) := by decide +kernel
theorem dX4_stale_52 : decode cX4_stale 52 = .ok (.if_icmp .ne 16, 3) := by decide +kernel
theorem dX4_stale_55 : decode cX4_stale 55 = .ok (.aload_n 0, 1) := by decide +kernel
theorem dX4_stale_56 : decode cX4_stale 56 = .ok (.aload 4, 2) := by decide +kernel
theorem dX4_stale_58 : decode cX4_stale 58 = .ok (.iload_n 1, 1) := by decide +kernel
theorem dX4_stale_59 : decode cX4_stale 59 = .ok (.invokevirtual 129, 3) := by decide +kernel
theorem dX4_stale_62 : decode cX4_stale 62 = .ok (.ifCond .eq 6, 3) := by decide +kernel
theorem dX4_stale_65 : decode cX4_stale 65 = .ok (.iinc 2 1, 3) := by decide +kernel
theorem dX4_stale_68 : decode cX4_stale 68 = .ok (.iinc 3 1, 3) := by decide +kernel
theorem dX4_stale_71 : decode cX4_stale 71 = .ok (.goto (-50), 3) := by decide +kernel
theorem dX4_stale_74 : decode cX4_stale 74 = .ok (.iload_n 2, 1) := by decide +kernel
theorem dX4_stale_75 : decode cX4_stale 75 = .ok (.ireturn, 1) := by decide +kernel
theorem dX4_count_0 : decode cX4_count 0 = .ok (.iload_n 1, 1) := by decide +kernel
theorem dX4_count_1 : decode cX4_count 1 = .ok (.tableswitch 106 0 8 #[51, 56, 65, 73, 78, 83, 88, 93, 98], 51) := by decide +kernel
theorem dX4_count_52 : decode cX4_count 52 = .ok (.aload_n 0, 1) := by decide +kernel
theorem dX4_count_53 : decode cX4_count 53 = .ok (.getfield 9, 3) := by decide +kernel
theorem dX4_count_56 : decode cX4_count 56 = .ok (.ireturn, 1) := by decide +kernel
theorem dX4_count_57 : decode cX4_count 57 = .ok (.aload_n 0, 1) := by decide +kernel
theorem dX4_count_58 : decode cX4_count 58 = .ok (.getfield 34, 3) := by decide +kernel
theorem dX4_count_61 : decode cX4_count 61 = .ok (.getfield 89, 3) := by decide +kernel
theorem dX4_count_64 : decode cX4_count 64 = .ok (.arraylength, 1) := by decide +kernel
theorem dX4_count_65 : decode cX4_count 65 = .ok (.ireturn, 1) := by decide +kernel
theorem dX4_count_66 : decode cX4_count 66 = .ok (.aload_n 0, 1) := by decide +kernel
theorem dX4_count_67 : decode cX4_count 67 = .ok (.getfield 34, 3) := by decide +kernel
theorem dX4_count_70 : decode cX4_count 70 = .ok (.getfield 115, 3) := by decide +kernel
theorem dX4_count_73 : decode cX4_count 73 = .ok (.ireturn, 1) := by decide +kernel
theorem dX4_count_74 : decode cX4_count 74 = .ok (.aload_n 0, 1) := by decide +kernel
theorem dX4_count_75 : decode cX4_count 75 = .ok (.getfield 42, 3) := by decide +kernel
theorem dX4_count_78 : decode cX4_count 78 = .ok (.ireturn, 1) := by decide +kernel
theorem dX4_count_79 : decode cX4_count 79 = .ok (.aload_n 0, 1) := by decide +kernel
theorem dX4_count_80 : decode cX4_count 80 = .ok (.getfield 132, 3) := by decide +kernel
theorem dX4_count_83 : decode cX4_count 83 = .ok (.ireturn, 1) := by decide +kernel
theorem dX4_count_84 : decode cX4_count 84 = .ok (.aload_n 0, 1) := by decide +kernel
theorem dX4_count_85 : decode cX4_count 85 = .ok (.getfield 135, 3) := by decide +kernel
theorem dX4_count_88 : decode cX4_count 88 = .ok (.ireturn, 1) := by decide +kernel
theorem dX4_count_89 : decode cX4_count 89 = .ok (.aload_n 0, 1) := by decide +kernel
theorem dX4_count_90 : decode cX4_count 90 = .ok (.getfield 138, 3) := by decide +kernel
theorem dX4_count_93 : decode cX4_count 93 = .ok (.ireturn, 1) := by decide +kernel
theorem dX4_count_94 : decode cX4_count 94 = .ok (.aload_n 0, 1) := by decide +kernel
theorem dX4_count_95 : decode cX4_count 95 = .ok (.getfield 141, 3) := by decide +kernel
theorem dX4_count_98 : decode cX4_count 98 = .ok (.ireturn, 1) := by decide +kernel
theorem dX4_count_99 : decode cX4_count 99 = .ok (.aload_n 0, 1) := by decide +kernel
theorem dX4_count_100 : decode cX4_count 100 = .ok (.getfield 34, 3) := by decide +kernel
theorem dX4_count_103 : decode cX4_count 103 = .ok (.getfield 144, 3) := by decide +kernel
theorem dX4_count_106 : decode cX4_count 106 = .ok (.ireturn, 1) := by decide +kernel
theorem dX4_count_107 : decode cX4_count 107 = .ok (.iconst (-1), 1) := by decide +kernel
theorem dX4_count_108 : decode cX4_count 108 = .ok (.ireturn, 1) := by decide +kernel
theorem dX4_translateByTables_0 : decode cX4_translateByTables 0 = .ok (.aload_n 0, 1) := by decide +kernel
theorem dX4_translateByTables_1 : decode cX4_translateByTables 1 = .ok (.dup, 1) := by decide +kernel
theorem dX4_translateByTables_2 : decode cX4_translateByTables 2 = .ok (.getfield 138, 3) := by decide +kernel
theorem dX4_translateByTables_5 : decode cX4_translateByTables 5 = .ok (.iconst 1, 1) := by decide +kernel
theorem dX4_translateByTables_6 : decode cX4_translateByTables 6 = .ok (.iadd, 1) := by decide +kernel
theorem dX4_translateByTables_7 : decode cX4_translateByTables 7 = .ok (.putfield 138, 3) := by decide +kernel
theorem dX4_translateByTables_10 : decode cX4_translateByTables 10 = .ok (.aload_n 0, 1) := by decide +kernel
theorem dX4_translateByTables_11 : decode cX4_translateByTables 11 = .ok (.getfield 25, 3) := by decide +kernel
theorem dX4_translateByTables_14 : decode cX4_translateByTables 14 = .ok (.aload_n 0, 1) := by decide +kernel
theorem dX4_translateByTables_15 : decode cX4_translateByTables 15 = .ok (.getfield 38, 3) := by decide +kernel
theorem dX4_translateByTables_18 : decode cX4_translateByTables 18 = .ok (.aload_n 0, 1) := by decide +kernel
theorem dX4_translateByTables_19 : decode cX4_translateByTables 19 = .ok (.getfield 42, 3) := by decide +kernel
theorem dX4_translateByTables_22 : decode cX4_translateByTables 22 = .ok (.iaload, 1) := by decide +kernel
theorem dX4_translateByTables_23 : decode cX4_translateByTables 23 = .ok (.iload_n 1, 1) := by decide +kernel
theorem dX4_translateByTables_24 : decode cX4_translateByTables 24 = .ok (.iload_n 2, 1) := by decide +kernel
theorem dX4_translateByTables_25 : decode cX4_translateByTables 25 = .ok (.invokevirtual 104, 3) := by decide +kernel
theorem dX4_translateByTables_28 : decode cX4_translateByTables 28 = .ok (.istore_n 3, 1) := by decide +kernel
theorem dX4_translateByTables_29 : decode cX4_translateByTables 29 = .ok (.aload_n 0, 1) := by decide +kernel
theorem dX4_translateByTables_30 : decode cX4_translateByTables 30 = .ok (.dup, 1) := by decide +kernel
theorem dX4_translateByTables_31 : decode cX4_translateByTables 31 = .ok (.getfield 132, 3) := by decide +kernel
theorem dX4_translateByTables_34 : decode cX4_translateByTables 34 = .ok (.aload_n 0, 1) := by decide +kernel
theorem dX4_translateByTables_35 : decode cX4_translateByTables 35 = .ok (.getfield 25, 3) := by decide +kernel
theorem dX4_translateByTables_38 : decode cX4_translateByTables 38 = .ok (.getfield 147, 3) := by decide +kernel
theorem dX4_translateByTables_41 : decode cX4_translateByTables 41 = .ok (.iadd, 1) := by decide +kernel
theorem dX4_translateByTables_42 : decode cX4_translateByTables 42 = .ok (.putfield 132, 3) := by decide +kernel
theorem dX4_translateByTables_45 : decode cX4_translateByTables 45 = .ok (.iload_n 3, 1) := by decide +kernel
theorem dX4_translateByTables_46 : decode cX4_translateByTables 46 = .ok (.ifCond .ne 30, 3) := by decide +kernel
theorem dX4_translateByTables_49 : decode cX4_translateByTables 49 = .ok (.aload_n 0, 1) := by decide +kernel
theorem dX4_translateByTables_50 : decode cX4_translateByTables 50 = .ok (.getfield 25, 3) := by decide +kernel
theorem dX4_translateByTables_53 : decode cX4_translateByTables 53 = .ok (.iload_n 2, 1) := by decide +kernel
theorem dX4_translateByTables_54 : decode cX4_translateByTables 54 = .ok (.invokestatic 150, 3) := by decide +kernel
theorem dX4_translateByTables_57 : decode cX4_translateByTables 57 = .ok (.invokevirtual 153, 3) := by decide +kernel
theorem dX4_translateByTables_60 : decode cX4_translateByTables 60 = .ok (.aload_n 0, 1) := by decide +kernel
theorem dX4_translateByTables_61 : decode cX4_translateByTables 61 = .ok (.getfield 34, 3) := by decide +kernel
theorem dX4_translateByTables_64 : decode cX4_translateByTables 64 = .ok (.aload_n 0, 1) := by decide +kernel
theorem dX4_translateByTables_65 : decode cX4_translateByTables 65 = .ok (.getfield 42, 3) := by decide +kernel
theorem dX4_translateByTables_68 : decode cX4_translateByTables 68 = .ok (.iload_n 1, 1) := by decide +kernel
theorem dX4_translateByTables_69 : decode cX4_translateByTables 69 = .ok (.aload_n 0, 1) := by decide +kernel
theorem dX4_translateByTables_70 : decode cX4_translateByTables 70 = .ok (.getfield 25, 3) := by decide +kernel
theorem dX4_translateByTables_73 : decode cX4_translateByTables 73 = .ok (.invokevirtual 157, 3) := by decide +kernel
theorem dX4_translateByTables_76 : decode cX4_translateByTables 76 = .ok (.aload_n 0, 1) := by decide +kernel
theorem dX4_translateByTables_77 : decode cX4_translateByTables 77 = .ok (.iload_n 3, 1) := by decide +kernel
theorem dX4_translateByTables_78 : decode cX4_translateByTables 78 = .ok (.aload_n 0, 1) := by decide +kernel
theorem dX4_translateByTables_79 : decode cX4_translateByTables 79 = .ok (.getfield 25, 3) := by decide +kernel
theorem dX4_translateByTables_82 : decode cX4_translateByTables 82 = .ok (.getfield 161, 3) := by decide +kernel
theorem dX4_translateByTables_85 : decode cX4_translateByTables 85 = .ok (.aload_n 0, 1) := by decide +kernel
theorem dX4_translateByTables_86 : decode cX4_translateByTables 86 = .ok (.getfield 25, 3) := by decide +kernel
theorem dX4_translateByTables_89 : decode cX4_translateByTables 89 = .ok (.getfield 107, 3) := by decide +kernel
theorem dX4_translateByTables_92 : decode cX4_translateByTables 92 = .ok (.invokevirtual 164, 3) := by decide +kernel
theorem dX4_translateByTables_95 : decode cX4_translateByTables 95 = .ok (.ireturn, 1) := by decide +kernel
theorem dX4_translateByEntry_0 : decode cX4_translateByEntry 0 = .ok (.aload_n 0, 1) := by decide +kernel
theorem dX4_translateByEntry_1 : decode cX4_translateByEntry 1 = .ok (.dup, 1) := by decide +kernel
theorem dX4_translateByEntry_2 : decode cX4_translateByEntry 2 = .ok (.getfield 135, 3) := by decide +kernel
theorem dX4_translateByEntry_5 : decode cX4_translateByEntry 5 = .ok (.iconst 1, 1) := by decide +kernel
theorem dX4_translateByEntry_6 : decode cX4_translateByEntry 6 = .ok (.iadd, 1) := by decide +kernel
theorem dX4_translateByEntry_7 : decode cX4_translateByEntry 7 = .ok (.putfield 135, 3) := by decide +kernel
theorem dX4_translateByEntry_10 : decode cX4_translateByEntry 10 = .ok (.aload_n 0, 1) := by decide +kernel
theorem dX4_translateByEntry_11 : decode cX4_translateByEntry 11 = .ok (.getfield 34, 3) := by decide +kernel
theorem dX4_translateByEntry_14 : decode cX4_translateByEntry 14 = .ok (.getfield 89, 3) := by decide +kernel
theorem dX4_translateByEntry_17 : decode cX4_translateByEntry 17 = .ok (.iload_n 1, 1) := by decide +kernel
theorem dX4_translateByEntry_18 : decode cX4_translateByEntry 18 = .ok (.aaload, 1) := by decide +kernel
theorem dX4_translateByEntry_19 : decode cX4_translateByEntry 19 = .ok (.astore 4, 2) := by decide +kernel
theorem dX4_translateByEntry_21 : decode cX4_translateByEntry 21 = .ok (.aload_n 0, 1) := by decide +kernel
theorem dX4_translateByEntry_22 : decode cX4_translateByEntry 22 = .ok (.getfield 34, 3) := by decide +kernel
theorem dX4_translateByEntry_25 : decode cX4_translateByEntry 25 = .ok (.iload_n 1, 1) := by decide +kernel
theorem dX4_translateByEntry_26 : decode cX4_translateByEntry 26 = .ok (.invokevirtual 167, 3) := by decide +kernel
theorem dX4_translateByEntry_29 : decode cX4_translateByEntry 29 = .ok (.aload 4, 2) := by decide +kernel
theorem dX4_translateByEntry_31 : decode cX4_translateByEntry 31 = .ok (.getfield 170, 3) := by decide +kernel
theorem dX4_translateByEntry_34 : decode cX4_translateByEntry 34 = .ok (.iload_n 3, 1) := by decide +kernel
theorem dX4_translateByEntry_35 : decode cX4_translateByEntry 35 = .ok (.invokestatic 173, 3) := by decide +kernel
theorem dX4_translateByEntry_38 : decode cX4_translateByEntry 38 = .ok (.ifCond .ne 14, 3) := by decide +kernel
theorem dX4_translateByEntry_41 : decode cX4_translateByEntry 41 = .ok (.aload_n 0, 1) := by decide +kernel
theorem dX4_translateByEntry_42 : decode cX4_translateByEntry 42 = .ok (.iconst 3, 1) := by decide +kernel
theorem dX4_translateByEntry_43 : decode cX4_translateByEntry 43 = .ok (.aload_n 0, 1) := by decide +kernel
theorem dX4_translateByEntry_44 : decode cX4_translateByEntry 44 = .ok (.getfield 9, 3) := by decide +kernel
theorem dX4_translateByEntry_47 : decode cX4_translateByEntry 47 = .ok (.iconst (-1), 1) := by decide +kernel
theorem dX4_translateByEntry_48 : decode cX4_translateByEntry 48 = .ok (.invokevirtual 164, 3) := by decide +kernel
theorem dX4_translateByEntry_51 : decode cX4_translateByEntry 51 = .ok (.ireturn, 1) := by decide +kernel
theorem dX4_translateByEntry_52 : decode cX4_translateByEntry 52 = .ok (.aload_n 0, 1) := by decide +kernel
theorem dX4_translateByEntry_53 : decode cX4_translateByEntry 53 = .ok (.getfield 16, 3) := by decide +kernel
theorem dX4_translateByEntry_56 : decode cX4_translateByEntry 56 = .ok (.aload 4, 2) := by decide +kernel
theorem dX4_translateByEntry_58 : decode cX4_translateByEntry 58 = .ok (.getfield 177, 3) := by decide +kernel
theorem dX4_translateByEntry_61 : decode cX4_translateByEntry 61 = .ok (.aload 4, 2) := by decide +kernel
theorem dX4_translateByEntry_63 : decode cX4_translateByEntry 63 = .ok (.getfield 180, 3) := by decide +kernel
theorem dX4_translateByEntry_66 : decode cX4_translateByEntry 66 = .ok (.iload_n 2, 1) := by decide +kernel
theorem dX4_translateByEntry_67 : decode cX4_translateByEntry 67 = .ok (.invokevirtual 183, 3) := by decide +kernel
theorem dX4_translateByEntry_70 : decode cX4_translateByEntry 70 = .ok (.istore 5, 2) := by decide +kernel
theorem dX4_translateByEntry_72 : decode cX4_translateByEntry 72 = .ok (.aload_n 0, 1) := by decide +kernel
theorem dX4_translateByEntry_73 : decode cX4_translateByEntry 73 = .ok (.iload 5, 2) := by decide +kernel
theorem dX4_translateByEntry_75 : decode cX4_translateByEntry 75 = .ok (.iconst (-1), 1) := by decide +kernel
theorem dX4_translateByEntry_76 : decode cX4_translateByEntry 76 = .ok (.if_icmp .ne 8, 3) := by decide +kernel
theorem dX4_translateByEntry_79 : decode cX4_translateByEntry 79 = .ok (.bipush 6, 2) := by decide +kernel
theorem dX4_translateByEntry_81 : decode cX4_translateByEntry 81 = .ok (.goto 4, 3) := by decide +kernel
theorem dX4_translateByEntry_84 : decode cX4_translateByEntry 84 = .ok (.iconst 0, 1) := by decide +kernel
theorem dX4_translateByEntry_85 : decode cX4_translateByEntry 85 = .ok (.aload_n 0, 1) := by decide +kernel
theorem dX4_translateByEntry_86 : decode cX4_translateByEntry 86 = .ok (.getfield 9, 3) := by decide +kernel
theorem dX4_translateByEntry_89 : decode cX4_translateByEntry 89 = .ok (.iload 5, 2) := by decide +kernel
theorem dX4_translateByEntry_91 : decode cX4_translateByEntry 91 = .ok (.invokevirtual 164, 3) := by decide +kernel
theorem dX4_translateByEntry_94 : decode cX4_translateByEntry 94 = .ok (.ireturn, 1) := by decide +kernel
theorem dX4_finish_0 : decode cX4_finish 0 = .ok (.aload_n 0, 1) := by decide +kernel
theorem dX4_finish_1 : decode cX4_finish 1 = .ok (.iload_n 3, 1) := by decide +kernel
theorem dX4_finish_2 : decode cX4_finish 2 = .ok (.putfield 45, 3) := by decide +kernel
theorem dX4_finish_5 : decode cX4_finish 5 = .ok (.aload_n 0, 1) := by decide +kernel
theorem dX4_finish_6 : decode cX4_finish 6 = .ok (.iload_n 1, 1) := by decide +kernel
theorem dX4_finish_7 : decode cX4_finish 7 = .ok (.ifCond .ne 7, 3) := by decide +kernel
theorem dX4_finish_10 : decode cX4_finish 10 = .ok (.iconst (-1), 1) := by decide +kernel
theorem dX4_finish_11 : decode cX4_finish 11 = .ok (.goto 4, 3) := by decide +kernel
theorem dX4_finish_14 : decode cX4_finish 14 = .ok (.iload_n 2, 1) := by decide +kernel
theorem dX4_finish_15 : decode cX4_finish 15 = .ok (.putfield 48, 3) := by decide +kernel
theorem dX4_finish_18 : decode cX4_finish 18 = .ok (.iload_n 1, 1) := by decide +kernel
theorem dX4_finish_19 : decode cX4_finish 19 = .ok (.ifCond .eq 13, 3) := by decide +kernel
theorem dX4_finish_22 : decode cX4_finish 22 = .ok (.aload_n 0, 1) := by decide +kernel
theorem dX4_finish_23 : decode cX4_finish 23 = .ok (.dup, 1) := by decide +kernel
theorem dX4_finish_24 : decode cX4_finish 24 = .ok (.getfield 141, 3) := by decide +kernel
theorem dX4_finish_27 : decode cX4_finish 27 = .ok (.iconst 1, 1) := by decide +kernel
theorem dX4_finish_28 : decode cX4_finish 28 = .ok (.iadd, 1) := by decide +kernel
theorem dX4_finish_29 : decode cX4_finish 29 = .ok (.putfield 141, 3) := by decide +kernel
theorem dX4_finish_32 : decode cX4_finish 32 = .ok (.iload_n 1, 1) := by decide +kernel
theorem dX4_finish_33 : decode cX4_finish 33 = .ok (.ireturn, 1) := by decide +kernel
theorem dX4_isStale_0 : decode cX4_isStale 0 = .ok (.aload_n 1, 1) := by decide +kernel
theorem dX4_isStale_1 : decode cX4_isStale 1 = .ok (.getfield 186, 3) := by decide +kernel
theorem dX4_isStale_4 : decode cX4_isStale 4 = .ok (.aload_n 1, 1) := by decide +kernel
theorem dX4_isStale_5 : decode cX4_isStale 5 = .ok (.getfield 180, 3) := by decide +kernel
theorem dX4_isStale_8 : decode cX4_isStale 8 = .ok (.invokestatic 189, 3) := by decide +kernel
theorem dX4_isStale_11 : decode cX4_isStale 11 = .ok (.ishl, 1) := by decide +kernel
theorem dX4_isStale_12 : decode cX4_isStale 12 = .ok (.istore_n 3, 1) := by decide +kernel
theorem dX4_isStale_13 : decode cX4_isStale 13 = .ok (.aload_n 1, 1) := by decide +kernel
theorem dX4_isStale_14 : decode cX4_isStale 14 = .ok (.getfield 170, 3) := by decide +kernel
theorem dX4_isStale_17 : decode cX4_isStale 17 = .ok (.iload_n 2, 1) := by decide +kernel
theorem dX4_isStale_18 : decode cX4_isStale 18 = .ok (.invokestatic 173, 3) := by decide +kernel
theorem dX4_isStale_21 : decode cX4_isStale 21 = .ok (.ifCond .eq 22, 3) := by decide +kernel
theorem dX4_isStale_24 : decode cX4_isStale 24 = .ok (.aload_n 0, 1) := by decide +kernel
theorem dX4_isStale_25 : decode cX4_isStale 25 = .ok (.getfield 16, 3) := by decide +kernel
theorem dX4_isStale_28 : decode cX4_isStale 28 = .ok (.aload_n 1, 1) := by decide +kernel
theorem dX4_isStale_29 : decode cX4_isStale 29 = .ok (.getfield 177, 3) := by decide +kernel
theorem dX4_isStale_32 : decode cX4_isStale 32 = .ok (.aload_n 1, 1) := by decide +kernel
theorem dX4_isStale_33 : decode cX4_isStale 33 = .ok (.getfield 180, 3) := by decide +kernel
theorem dX4_isStale_36 : decode cX4_isStale 36 = .ok (.iload_n 3, 1) := by decide +kernel
theorem dX4_isStale_37 : decode cX4_isStale 37 = .ok (.invokevirtual 183, 3) := by decide +kernel
theorem dX4_isStale_40 : decode cX4_isStale 40 = .ok (.goto 4, 3) := by decide +kernel
theorem dX4_isStale_43 : decode cX4_isStale 43 = .ok (.iconst (-1), 1) := by decide +kernel
theorem dX4_isStale_44 : decode cX4_isStale 44 = .ok (.istore 4, 2) := by decide +kernel
theorem dX4_isStale_46 : decode cX4_isStale 46 = .ok (.aload_n 0, 1) := by decide +kernel
theorem dX4_isStale_47 : decode cX4_isStale 47 = .ok (.getfield 25, 3) := by decide +kernel
theorem dX4_isStale_50 : decode cX4_isStale 50 = .ok (.aload_n 0, 1) := by decide +kernel
theorem dX4_isStale_51 : decode cX4_isStale 51 = .ok (.getfield 38, 3) := by decide +kernel
theorem dX4_isStale_54 : decode cX4_isStale 54 = .ok (.aload_n 0, 1) := by decide +kernel
theorem dX4_isStale_55 : decode cX4_isStale 55 = .ok (.getfield 42, 3) := by decide +kernel
theorem dX4_isStale_58 : decode cX4_isStale 58 = .ok (.iaload, 1) := by decide +kernel
theorem dX4_isStale_59 : decode cX4_isStale 59 = .ok (.iload_n 3, 1) := by decide +kernel
theorem dX4_isStale_60 : decode cX4_isStale 60 = .ok (.iload_n 2, 1) := by decide +kernel
theorem dX4_isStale_61 : decode cX4_isStale 61 = .ok (.invokevirtual 104, 3) := by decide +kernel
theorem dX4_isStale_64 : decode cX4_isStale 64 = .ok (.pop, 1) := by decide +kernel
theorem dX4_isStale_65 : decode cX4_isStale 65 = .ok (.iload 4, 2) := by decide +kernel
theorem dX4_isStale_67 : decode cX4_isStale 67 = .ok (.aload_n 0, 1) := by decide +kernel
theorem dX4_isStale_68 : decode cX4_isStale 68 = .ok (.getfield 25, 3) := by decide +kernel
theorem dX4_isStale_71 : decode cX4_isStale 71 = .ok (.getfield 107, 3) := by decide +kernel
theorem dX4_isStale_74 : decode cX4_isStale 74 = .ok (.if_icmp .eq 7, 3) := by decide +kernel
theorem dX4_isStale_77 : decode cX4_isStale 77 = .ok (.iconst 1, 1) := by decide +kernel
theorem dX4_isStale_78 : decode cX4_isStale 78 = .ok (.goto 4, 3) := by decide +kernel
theorem dX4_isStale_81 : decode cX4_isStale 81 = .ok (.iconst 0, 1) := by decide +kernel
theorem dX4_isStale_82 : decode cX4_isStale 82 = .ok (.ireturn, 1) := by decide +kernel
theorem dX4_needsChangedMark_0 : decode cX4_needsChangedMark 0 = .ok (.iload_n 1, 1) := by decide +kernel
theorem dX4_needsChangedMark_1 : decode cX4_needsChangedMark 1 = .ok (.invokestatic 150, 3) := by decide +kernel
theorem dX4_needsChangedMark_4 : decode cX4_needsChangedMark 4 = .ok (.ifCond .eq 25, 3) := by decide +kernel
theorem dX4_needsChangedMark_7 : decode cX4_needsChangedMark 7 = .ok (.aload_n 0, 1) := by decide +kernel
theorem dX4_needsChangedMark_8 : decode cX4_needsChangedMark 8 = .ok (.getfield 192, 3) := by decide +kernel
theorem dX4_needsChangedMark_11 : decode cX4_needsChangedMark 11 = .ok (.ifCond .ne 18, 3) := by decide +kernel
theorem dX4_needsChangedMark_14 : decode cX4_needsChangedMark 14 = .ok (.aload_n 0, 1) := by decide +kernel
theorem dX4_needsChangedMark_15 : decode cX4_needsChangedMark 15 = .ok (.getfield 170, 3) := by decide +kernel
theorem dX4_needsChangedMark_18 : decode cX4_needsChangedMark 18 = .ok (.iload_n 1, 1) := by decide +kernel
theorem dX4_needsChangedMark_19 : decode cX4_needsChangedMark 19 = .ok (.invokestatic 173, 3) := by decide +kernel
theorem dX4_needsChangedMark_22 : decode cX4_needsChangedMark 22 = .ok (.ifCond .eq 7, 3) := by decide +kernel
theorem dX4_needsChangedMark_25 : decode cX4_needsChangedMark 25 = .ok (.iconst 1, 1) := by decide +kernel
theorem dX4_needsChangedMark_26 : decode cX4_needsChangedMark 26 = .ok (.goto 4, 3) := by decide +kernel
theorem dX4_needsChangedMark_29 : decode cX4_needsChangedMark 29 = .ok (.iconst 0, 1) := by decide +kernel
theorem dX4_needsChangedMark_30 : decode cX4_needsChangedMark 30 = .ok (.ireturn, 1) := by decide +kernel
theorem dX4_isKind_0 : decode cX4_isKind 0 = .ok (.iload_n 0, 1) := by decide +kernel
theorem dX4_isKind_1 : decode cX4_isKind 1 = .ok (.ifCond .lt 13, 3) := by decide +kernel
theorem dX4_isKind_4 : decode cX4_isKind 4 = .ok (.iload_n 0, 1) := by decide +kernel
theorem dX4_isKind_5 : decode cX4_isKind 5 = .ok (.bipush 6, 2) := by decide +kernel
theorem dX4_isKind_7 : decode cX4_isKind 7 = .ok (.if_icmp .ge 7, 3) := by decide +kernel
theorem dX4_isKind_10 : decode cX4_isKind 10 = .ok (.iconst 1, 1) := by decide +kernel
theorem dX4_isKind_11 : decode cX4_isKind 11 = .ok (.goto 4, 3) := by decide +kernel
theorem dX4_isKind_14 : decode cX4_isKind 14 = .ok (.iconst 0, 1) := by decide +kernel
theorem dX4_isKind_15 : decode cX4_isKind 15 = .ok (.ireturn, 1) := by decide +kernel
theorem dX4_isWrite_0 : decode cX4_isWrite 0 = .ok (.iload_n 0, 1) := by decide +kernel
theorem dX4_isWrite_1 : decode cX4_isWrite 1 = .ok (.iconst 3, 1) := by decide +kernel
theorem dX4_isWrite_2 : decode cX4_isWrite 2 = .ok (.irem, 1) := by decide +kernel
theorem dX4_isWrite_3 : decode cX4_isWrite 3 = .ok (.iconst 1, 1) := by decide +kernel
theorem dX4_isWrite_4 : decode cX4_isWrite 4 = .ok (.if_icmp .ne 7, 3) := by decide +kernel
theorem dX4_isWrite_7 : decode cX4_isWrite 7 = .ok (.iconst 1, 1) := by decide +kernel
theorem dX4_isWrite_8 : decode cX4_isWrite 8 = .ok (.goto 4, 3) := by decide +kernel
theorem dX4_isWrite_11 : decode cX4_isWrite 11 = .ok (.iconst 0, 1) := by decide +kernel
theorem dX4_isWrite_12 : decode cX4_isWrite 12 = .ok (.ireturn, 1) := by decide +kernel
theorem dX4_allows_0 : decode cX4_allows 0 = .ok (.iload_n 0, 1) := by decide +kernel
theorem dX4_allows_1 : decode cX4_allows 1 = .ok (.iload_n 1, 1) := by decide +kernel
theorem dX4_allows_2 : decode cX4_allows 2 = .ok (.iconst 3, 1) := by decide +kernel
theorem dX4_allows_3 : decode cX4_allows 3 = .ok (.irem, 1) := by decide +kernel
theorem dX4_allows_4 : decode cX4_allows 4 = .ok (.ishr, 1) := by decide +kernel
theorem dX4_allows_5 : decode cX4_allows 5 = .ok (.iconst 1, 1) := by decide +kernel
theorem dX4_allows_6 : decode cX4_allows 6 = .ok (.iand, 1) := by decide +kernel
theorem dX4_allows_7 : decode cX4_allows 7 = .ok (.ifCond .eq 7, 3) := by decide +kernel
theorem dX4_allows_10 : decode cX4_allows 10 = .ok (.iconst 1, 1) := by decide +kernel
theorem dX4_allows_11 : decode cX4_allows 11 = .ok (.goto 4, 3) := by decide +kernel
theorem dX4_allows_14 : decode cX4_allows 14 = .ok (.iconst 0, 1) := by decide +kernel
theorem dX4_allows_15 : decode cX4_allows 15 = .ok (.istore_n 2, 1) := by decide +kernel
theorem dX4_allows_16 : decode cX4_allows 16 = .ok (.iload_n 1, 1) := by decide +kernel
theorem dX4_allows_17 : decode cX4_allows 17 = .ok (.iconst 3, 1) := by decide +kernel
theorem dX4_allows_18 : decode cX4_allows 18 = .ok (.if_icmp .lt 10, 3) := by decide +kernel
theorem dX4_allows_21 : decode cX4_allows 21 = .ok (.iload_n 0, 1) := by decide +kernel
theorem dX4_allows_22 : decode cX4_allows 22 = .ok (.bipush 8, 2) := by decide +kernel
theorem dX4_allows_24 : decode cX4_allows 24 = .ok (.iand, 1) := by decide +kernel
theorem dX4_allows_25 : decode cX4_allows 25 = .ok (.ifCond .eq 7, 3) := by decide +kernel
theorem dX4_allows_28 : decode cX4_allows 28 = .ok (.iconst 1, 1) := by decide +kernel
theorem dX4_allows_29 : decode cX4_allows 29 = .ok (.goto 4, 3) := by decide +kernel
theorem dX4_allows_32 : decode cX4_allows 32 = .ok (.iconst 0, 1) := by decide +kernel
theorem dX4_allows_33 : decode cX4_allows 33 = .ok (.istore_n 3, 1) := by decide +kernel
theorem dX4_allows_34 : decode cX4_allows 34 = .ok (.iload_n 2, 1) := by decide +kernel
theorem dX4_allows_35 : decode cX4_allows 35 = .ok (.ifCond .eq 11, 3) := by decide +kernel
theorem dX4_allows_38 : decode cX4_allows 38 = .ok (.iload_n 3, 1) := by decide +kernel
theorem dX4_allows_39 : decode cX4_allows 39 = .ok (.ifCond .eq 7, 3) := by decide +kernel
theorem dX4_allows_42 : decode cX4_allows 42 = .ok (.iconst 1, 1) := by decide +kernel
theorem dX4_allows_43 : decode cX4_allows 43 = .ok (.goto 4, 3) := by decide +kernel
theorem dX4_allows_46 : decode cX4_allows 46 = .ok (.iconst 0, 1) := by decide +kernel
theorem dX4_allows_47 : decode cX4_allows 47 = .ok (.ireturn, 1) := by decide +kernel
theorem dX4_bitsBelow_0 : decode cX4_bitsBelow 0 = .ok (.bipush 8, 2) := by decide +kernel
theorem dX4_bitsBelow_2 : decode cX4_bitsBelow 2 = .ok (.iconst 4, 1) := by decide +kernel
theorem dX4_bitsBelow_3 : decode cX4_bitsBelow 3 = .ok (.iload_n 0, 1) := by decide +kernel
theorem dX4_bitsBelow_4 : decode cX4_bitsBelow 4 = .ok (.imul, 1) := by decide +kernel
theorem dX4_bitsBelow_5 : decode cX4_bitsBelow 5 = .ok (.iadd, 1) := by decide +kernel
theorem dX4_bitsBelow_6 : decode cX4_bitsBelow 6 = .ok (.ireturn, 1) := by decide +kernel
theorem dX4_frameOf_0 : decode cX4_frameOf 0 = .ok (.lload_n 0, 1) := by decide +kernel
theorem dX4_frameOf_1 : decode cX4_frameOf 1 = .ok (.bipush 8, 2) := by decide +kernel
theorem dX4_frameOf_3 : decode cX4_frameOf 3 = .ok (.lushr, 1) := by decide +kernel
theorem dX4_frameOf_4 : decode cX4_frameOf 4 = .ok (.l2i, 1) := by decide +kernel
theorem dX4_frameOf_5 : decode cX4_frameOf 5 = .ok (.ldc 195, 2) := by decide +kernel
theorem dX4_frameOf_7 : decode cX4_frameOf 7 = .ok (.iand, 1) := by decide +kernel
theorem dX4_frameOf_8 : decode cX4_frameOf 8 = .ok (.ireturn, 1) := by decide +kernel
theorem dX4_rightsOf_0 : decode cX4_rightsOf 0 = .ok (.lload_n 0, 1) := by decide +kernel
theorem dX4_rightsOf_1 : decode cX4_rightsOf 1 = .ok (.iconst 1, 1) := by decide +kernel
theorem dX4_rightsOf_2 : decode cX4_rightsOf 2 = .ok (.lushr, 1) := by decide +kernel
theorem dX4_rightsOf_3 : decode cX4_rightsOf 3 = .ok (.l2i, 1) := by decide +kernel
theorem dX4_rightsOf_4 : decode cX4_rightsOf 4 = .ok (.bipush 15, 2) := by decide +kernel
theorem dX4_rightsOf_6 : decode cX4_rightsOf 6 = .ok (.iand, 1) := by decide +kernel
theorem dX4_rightsOf_7 : decode cX4_rightsOf 7 = .ok (.ireturn, 1) := by decide +kernel
theorem dX0_init_0 : decode cX0_init 0 = .ok (.aload_n 0, 1) := by decide +kernel
theorem dX0_init_1 : decode cX0_init 1 = .ok (.invokespecial 3, 3) := by decide +kernel
theorem dX0_init_4 : decode cX0_init 4 = .ok (.aload_n 0, 1) := by decide +kernel
theorem dX0_init_5 : decode cX0_init 5 = .ok (.iload_n 1, 1) := by decide +kernel
theorem dX0_init_6 : decode cX0_init 6 = .ok (.anewarray 9, 3) := by decide +kernel
theorem dX0_init_9 : decode cX0_init 9 = .ok (.putfield 11, 3) := by decide +kernel
theorem dX0_init_12 : decode cX0_init 12 = .ok (.iconst 0, 1) := by decide +kernel
theorem dX0_init_13 : decode cX0_init 13 = .ok (.istore_n 2, 1) := by decide +kernel
theorem dX0_init_14 : decode cX0_init 14 = .ok (.iload_n 2, 1) := by decide +kernel
theorem dX0_init_15 : decode cX0_init 15 = .ok (.iload_n 1, 1) := by decide +kernel
theorem dX0_init_16 : decode cX0_init 16 = .ok (.if_icmp .ge 22, 3) := by decide +kernel
theorem dX0_init_19 : decode cX0_init 19 = .ok (.aload_n 0, 1) := by decide +kernel
theorem dX0_init_20 : decode cX0_init 20 = .ok (.getfield 11, 3) := by decide +kernel
theorem dX0_init_23 : decode cX0_init 23 = .ok (.iload_n 2, 1) := by decide +kernel
theorem dX0_init_24 : decode cX0_init 24 = .ok (.new 9, 3) := by decide +kernel
theorem dX0_init_27 : decode cX0_init 27 = .ok (.dup, 1) := by decide +kernel
theorem dX0_init_28 : decode cX0_init 28 = .ok (.invokespecial 17, 3) := by decide +kernel
theorem dX0_init_31 : decode cX0_init 31 = .ok (.aastore, 1) := by decide +kernel
theorem dX0_init_32 : decode cX0_init 32 = .ok (.iinc 2 1, 3) := by decide +kernel
theorem dX0_init_35 : decode cX0_init 35 = .ok (.goto (-21), 3) := by decide +kernel
theorem dX0_init_38 : decode cX0_init 38 = .ok (.return_, 1) := by decide +kernel
theorem dX0_find_0 : decode cX0_find 0 = .ok (.iconst 0, 1) := by decide +kernel
theorem dX0_find_1 : decode cX0_find 1 = .ok (.istore_n 3, 1) := by decide +kernel
theorem dX0_find_2 : decode cX0_find 2 = .ok (.iload_n 3, 1) := by decide +kernel
theorem dX0_find_3 : decode cX0_find 3 = .ok (.aload_n 0, 1) := by decide +kernel
theorem dX0_find_4 : decode cX0_find 4 = .ok (.getfield 18, 3) := by decide +kernel
theorem dX0_find_7 : decode cX0_find 7 = .ok (.if_icmp .ge 25, 3) := by decide +kernel
theorem dX0_find_10 : decode cX0_find 10 = .ok (.aload_n 0, 1) := by decide +kernel
theorem dX0_find_11 : decode cX0_find 11 = .ok (.getfield 11, 3) := by decide +kernel
theorem dX0_find_14 : decode cX0_find 14 = .ok (.iload_n 3, 1) := by decide +kernel
theorem dX0_find_15 : decode cX0_find 15 = .ok (.aaload, 1) := by decide +kernel
theorem dX0_find_16 : decode cX0_find 16 = .ok (.iload_n 1, 1) := by decide +kernel
theorem dX0_find_17 : decode cX0_find 17 = .ok (.iload_n 2, 1) := by decide +kernel
theorem dX0_find_18 : decode cX0_find 18 = .ok (.invokevirtual 22, 3) := by decide +kernel
theorem dX0_find_21 : decode cX0_find 21 = .ok (.ifCond .eq 5, 3) := by decide +kernel
theorem dX0_find_24 : decode cX0_find 24 = .ok (.iload_n 3, 1) := by decide +kernel
theorem dX0_find_25 : decode cX0_find 25 = .ok (.ireturn, 1) := by decide +kernel
theorem dX0_find_26 : decode cX0_find 26 = .ok (.iinc 3 1, 3) := by decide +kernel
theorem dX0_find_29 : decode cX0_find 29 = .ok (.goto (-27), 3) := by decide +kernel
theorem dX0_find_32 : decode cX0_find 32 = .ok (.iconst (-1), 1) := by decide +kernel
theorem dX0_find_33 : decode cX0_find 33 = .ok (.ireturn, 1) := by decide +kernel
theorem dX0_use_0 : decode cX0_use 0 = .ok (.aload_n 0, 1) := by decide +kernel
theorem dX0_use_1 : decode cX0_use 1 = .ok (.getfield 11, 3) := by decide +kernel
theorem dX0_use_4 : decode cX0_use 4 = .ok (.iload_n 1, 1) := by decide +kernel
theorem dX0_use_5 : decode cX0_use 5 = .ok (.aaload, 1) := by decide +kernel
theorem dX0_use_6 : decode cX0_use 6 = .ok (.astore_n 2, 1) := by decide +kernel
theorem dX0_use_7 : decode cX0_use 7 = .ok (.iload_n 1, 1) := by decide +kernel
theorem dX0_use_8 : decode cX0_use 8 = .ok (.istore_n 3, 1) := by decide +kernel
theorem dX0_use_9 : decode cX0_use 9 = .ok (.iload_n 3, 1) := by decide +kernel
theorem dX0_use_10 : decode cX0_use 10 = .ok (.ifCond .le 23, 3) := by decide +kernel
theorem dX0_use_13 : decode cX0_use 13 = .ok (.aload_n 0, 1) := by decide +kernel
theorem dX0_use_14 : decode cX0_use 14 = .ok (.getfield 11, 3) := by decide +kernel
theorem dX0_use_17 : decode cX0_use 17 = .ok (.iload_n 3, 1) := by decide +kernel
theorem dX0_use_18 : decode cX0_use 18 = .ok (.aload_n 0, 1) := by decide +kernel
theorem dX0_use_19 : decode cX0_use 19 = .ok (.getfield 11, 3) := by decide +kernel
theorem dX0_use_22 : decode cX0_use 22 = .ok (.iload_n 3, 1) := by decide +kernel
theorem dX0_use_23 : decode cX0_use 23 = .ok (.iconst 1, 1) := by decide +kernel
theorem dX0_use_24 : decode cX0_use 24 = .ok (.isub, 1) := by decide +kernel
theorem dX0_use_25 : decode cX0_use 25 = .ok (.aaload, 1) := by decide +kernel
theorem dX0_use_26 : decode cX0_use 26 = .ok (.aastore, 1) := by decide +kernel
theorem dX0_use_27 : decode cX0_use 27 = .ok (.iinc 3 (-1), 3) := by decide +kernel
theorem dX0_use_30 : decode cX0_use 30 = .ok (.goto (-21), 3) := by decide +kernel
theorem dX0_use_33 : decode cX0_use 33 = .ok (.aload_n 0, 1) := by decide +kernel
theorem dX0_use_34 : decode cX0_use 34 = .ok (.getfield 11, 3) := by decide +kernel
theorem dX0_use_37 : decode cX0_use 37 = .ok (.iconst 0, 1) := by decide +kernel
theorem dX0_use_38 : decode cX0_use 38 = .ok (.aload_n 2, 1) := by decide +kernel
theorem dX0_use_39 : decode cX0_use 39 = .ok (.aastore, 1) := by decide +kernel
theorem dX0_use_40 : decode cX0_use 40 = .ok (.return_, 1) := by decide +kernel
theorem dX0_keep_0 : decode cX0_keep 0 = .ok (.aload_n 0, 1) := by decide +kernel
theorem dX0_keep_1 : decode cX0_keep 1 = .ok (.iload_n 1, 1) := by decide +kernel
theorem dX0_keep_2 : decode cX0_keep 2 = .ok (.iload_n 2, 1) := by decide +kernel
theorem dX0_keep_3 : decode cX0_keep 3 = .ok (.aload_n 3, 1) := by decide +kernel
theorem dX0_keep_4 : decode cX0_keep 4 = .ok (.getfield 26, 3) := by decide +kernel
theorem dX0_keep_7 : decode cX0_keep 7 = .ok (.invokevirtual 31, 3) := by decide +kernel
theorem dX0_keep_10 : decode cX0_keep 10 = .ok (.istore 4, 2) := by decide +kernel
theorem dX0_keep_12 : decode cX0_keep 12 = .ok (.aload_n 0, 1) := by decide +kernel
theorem dX0_keep_13 : decode cX0_keep 13 = .ok (.getfield 11, 3) := by decide +kernel
theorem dX0_keep_16 : decode cX0_keep 16 = .ok (.iload 4, 2) := by decide +kernel
theorem dX0_keep_18 : decode cX0_keep 18 = .ok (.aaload, 1) := by decide +kernel
theorem dX0_keep_19 : decode cX0_keep 19 = .ok (.astore 5, 2) := by decide +kernel
theorem dX0_keep_21 : decode cX0_keep 21 = .ok (.aload 5, 2) := by decide +kernel
theorem dX0_keep_23 : decode cX0_keep 23 = .ok (.iload_n 1, 1) := by decide +kernel
theorem dX0_keep_24 : decode cX0_keep 24 = .ok (.putfield 35, 3) := by decide +kernel
theorem dX0_keep_27 : decode cX0_keep 27 = .ok (.aload 5, 2) := by decide +kernel
theorem dX0_keep_29 : decode cX0_keep 29 = .ok (.aload_n 3, 1) := by decide +kernel
theorem dX0_keep_30 : decode cX0_keep 30 = .ok (.getfield 26, 3) := by decide +kernel
theorem dX0_keep_33 : decode cX0_keep 33 = .ok (.putfield 38, 3) := by decide +kernel
theorem dX0_keep_36 : decode cX0_keep 36 = .ok (.aload 5, 2) := by decide +kernel
theorem dX0_keep_38 : decode cX0_keep 38 = .ok (.iload_n 2, 1) := by decide +kernel
theorem dX0_keep_39 : decode cX0_keep 39 = .ok (.aload_n 3, 1) := by decide +kernel
theorem dX0_keep_40 : decode cX0_keep 40 = .ok (.getfield 26, 3) := by decide +kernel
theorem dX0_keep_43 : decode cX0_keep 43 = .ok (.invokestatic 39, 3) := by decide +kernel
theorem dX0_keep_46 : decode cX0_keep 46 = .ok (.iushr, 1) := by decide +kernel
theorem dX0_keep_47 : decode cX0_keep 47 = .ok (.putfield 43, 3) := by decide +kernel
theorem dX0_keep_50 : decode cX0_keep 50 = .ok (.aload 5, 2) := by decide +kernel
theorem dX0_keep_52 : decode cX0_keep 52 = .ok (.aload_n 3, 1) := by decide +kernel
theorem dX0_keep_53 : decode cX0_keep 53 = .ok (.getfield 46, 3) := by decide +kernel
theorem dX0_keep_56 : decode cX0_keep 56 = .ok (.invokestatic 50, 3) := by decide +kernel
theorem dX0_keep_59 : decode cX0_keep 59 = .ok (.putfield 54, 3) := by decide +kernel
theorem dX0_keep_62 : decode cX0_keep 62 = .ok (.aload 5, 2) := by decide +kernel
theorem dX0_keep_64 : decode cX0_keep 64 = .ok (.aload_n 3, 1) := by decide +kernel
theorem dX0_keep_65 : decode cX0_keep 65 = .ok (.getfield 46, 3) := by decide +kernel
theorem dX0_keep_68 : decode cX0_keep 68 = .ok (.invokestatic 57, 3) := by decide +kernel
theorem dX0_keep_71 : decode cX0_keep 71 = .ok (.putfield 60, 3) := by decide +kernel
theorem dX0_keep_74 : decode cX0_keep 74 = .ok (.aload 5, 2) := by decide +kernel
theorem dX0_keep_76 : decode cX0_keep 76 = .ok (.aload_n 3, 1) := by decide +kernel
theorem dX0_keep_77 : decode cX0_keep 77 = .ok (.getfield 46, 3) := by decide +kernel
theorem dX0_keep_80 : decode cX0_keep 80 = .ok (.ldc2_w 63, 3) := by decide +kernel
theorem dX0_keep_83 : decode cX0_keep 83 = .ok (.land, 1) := by decide +kernel
theorem dX0_keep_84 : decode cX0_keep 84 = .ok (.lconst 0, 1) := by decide +kernel
theorem dX0_keep_85 : decode cX0_keep 85 = .ok (.lcmp, 1) := by decide +kernel
theorem dX0_keep_86 : decode cX0_keep 86 = .ok (.ifCond .eq 7, 3) := by decide +kernel
theorem dX0_keep_89 : decode cX0_keep 89 = .ok (.iconst 1, 1) := by decide +kernel
theorem dX0_keep_90 : decode cX0_keep 90 = .ok (.goto 4, 3) := by decide +kernel
theorem dX0_keep_93 : decode cX0_keep 93 = .ok (.iconst 0, 1) := by decide +kernel
theorem dX0_keep_94 : decode cX0_keep 94 = .ok (.putfield 65, 3) := by decide +kernel
theorem dX0_keep_97 : decode cX0_keep 97 = .ok (.aload_n 0, 1) := by decide +kernel
theorem dX0_keep_98 : decode cX0_keep 98 = .ok (.iload 4, 2) := by decide +kernel
theorem dX0_keep_100 : decode cX0_keep 100 = .ok (.invokevirtual 69, 3) := by decide +kernel
theorem dX0_keep_103 : decode cX0_keep 103 = .ok (.return_, 1) := by decide +kernel
theorem dX0_rowFor_0 : decode cX0_rowFor 0 = .ok (.iconst 0, 1) := by decide +kernel
theorem dX0_rowFor_1 : decode cX0_rowFor 1 = .ok (.istore 4, 2) := by decide +kernel
theorem dX0_rowFor_3 : decode cX0_rowFor 3 = .ok (.iload 4, 2) := by decide +kernel
theorem dX0_rowFor_5 : decode cX0_rowFor 5 = .ok (.aload_n 0, 1) := by decide +kernel
theorem dX0_rowFor_6 : decode cX0_rowFor 6 = .ok (.getfield 18, 3) := by decide +kernel
theorem dX0_rowFor_9 : decode cX0_rowFor 9 = .ok (.if_icmp .ge 41, 3) := by decide +kernel
theorem dX0_rowFor_12 : decode cX0_rowFor 12 = .ok (.aload_n 0, 1) := by decide +kernel
theorem dX0_rowFor_13 : decode cX0_rowFor 13 = .ok (.getfield 11, 3) := by decide +kernel
theorem dX0_rowFor_16 : decode cX0_rowFor 16 = .ok (.iload 4, 2) := by decide +kernel
theorem dX0_rowFor_18 : decode cX0_rowFor 18 = .ok (.aaload, 1) := by decide +kernel
theorem dX0_rowFor_19 : decode cX0_rowFor 19 = .ok (.getfield 38, 3) := by decide +kernel
theorem dX0_rowFor_22 : decode cX0_rowFor 22 = .ok (.iload_n 3, 1) := by decide +kernel
theorem dX0_rowFor_23 : decode cX0_rowFor 23 = .ok (.if_icmp .ne 21, 3) := by decide +kernel
theorem dX0_rowFor_26 : decode cX0_rowFor 26 = .ok (.aload_n 0, 1) := by decide +kernel
theorem dX0_rowFor_27 : decode cX0_rowFor 27 = .ok (.getfield 11, 3) := by decide +kernel
theorem dX0_rowFor_30 : decode cX0_rowFor 30 = .ok (.iload 4, 2) := by decide +kernel
theorem dX0_rowFor_32 : decode cX0_rowFor 32 = .ok (.aaload, 1) := by decide +kernel
theorem dX0_rowFor_33 : decode cX0_rowFor 33 = .ok (.iload_n 1, 1) := by decide +kernel
theorem dX0_rowFor_34 : decode cX0_rowFor 34 = .ok (.iload_n 2, 1) := by decide +kernel
theorem dX0_rowFor_35 : decode cX0_rowFor 35 = .ok (.invokevirtual 22, 3) := by decide +kernel
theorem dX0_rowFor_38 : decode cX0_rowFor 38 = .ok (.ifCond .eq 6, 3) := by decide +kernel
theorem dX0_rowFor_41 : decode cX0_rowFor 41 = .ok (.iload 4, 2) := by decide +kernel
theorem dX0_rowFor_43 : decode cX0_rowFor 43 = .ok (.ireturn, 1) := by decide +kernel
theorem dX0_rowFor_44 : decode cX0_rowFor 44 = .ok (.iinc 4 1, 3) := by decide +kernel
theorem dX0_rowFor_47 : decode cX0_rowFor 47 = .ok (.goto (-44), 3) := by decide +kernel
theorem dX0_rowFor_50 : decode cX0_rowFor 50 = .ok (.aload_n 0, 1) := by decide +kernel
theorem dX0_rowFor_51 : decode cX0_rowFor 51 = .ok (.getfield 18, 3) := by decide +kernel
theorem dX0_rowFor_54 : decode cX0_rowFor 54 = .ok (.aload_n 0, 1) := by decide +kernel
theorem dX0_rowFor_55 : decode cX0_rowFor 55 = .ok (.getfield 11, 3) := by decide +kernel
theorem dX0_rowFor_58 : decode cX0_rowFor 58 = .ok (.arraylength, 1) := by decide +kernel
theorem dX0_rowFor_59 : decode cX0_rowFor 59 = .ok (.if_icmp .ge 16, 3) := by decide +kernel
theorem dX0_rowFor_62 : decode cX0_rowFor 62 = .ok (.aload_n 0, 1) := by decide +kernel
theorem dX0_rowFor_63 : decode cX0_rowFor 63 = .ok (.dup, 1) := by decide +kernel
theorem dX0_rowFor_64 : decode cX0_rowFor 64 = .ok (.getfield 18, 3) := by decide +kernel
theorem dX0_rowFor_67 : decode cX0_rowFor 67 = .ok (.iconst 1, 1) := by decide +kernel
theorem dX0_rowFor_68 : decode cX0_rowFor 68 = .ok (.iadd, 1) := by decide +kernel
theorem dX0_rowFor_69 : decode cX0_rowFor 69 = .ok (.putfield 18, 3) := by decide +kernel
theorem dX0_rowFor_72 : decode cX0_rowFor 72 = .ok (.goto 13, 3) := by decide +kernel
theorem dX0_rowFor_75 : decode cX0_rowFor 75 = .ok (.aload_n 0, 1) := by decide +kernel
theorem dX0_rowFor_76 : decode cX0_rowFor 76 = .ok (.dup, 1) := by decide +kernel
theorem dX0_rowFor_77 : decode cX0_rowFor 77 = .ok (.getfield 73, 3) := by decide +kernel
theorem dX0_rowFor_80 : decode cX0_rowFor 80 = .ok (.iconst 1, 1) := by decide +kernel
theorem dX0_rowFor_81 : decode cX0_rowFor 81 = .ok (.iadd, 1) := by decide +kernel
theorem dX0_rowFor_82 : decode cX0_rowFor 82 = .ok (.putfield 73, 3) := by decide +kernel
theorem dX0_rowFor_85 : decode cX0_rowFor 85 = .ok (.aload_n 0, 1) := by decide +kernel
theorem dX0_rowFor_86 : decode cX0_rowFor 86 = .ok (.getfield 18, 3) := by decide +kernel
theorem dX0_rowFor_89 : decode cX0_rowFor 89 = .ok (.iconst 1, 1) := by decide +kernel
theorem dX0_rowFor_90 : decode cX0_rowFor 90 = .ok (.isub, 1) := by decide +kernel
theorem dX0_rowFor_91 : decode cX0_rowFor 91 = .ok (.ireturn, 1) := by decide +kernel
theorem dX0_forget_0 : decode cX0_forget 0 = .ok (.iconst 0, 1) := by decide +kernel
theorem dX0_forget_1 : decode cX0_forget 1 = .ok (.istore 4, 2) := by decide +kernel
theorem dX0_forget_3 : decode cX0_forget 3 = .ok (.iconst 0, 1) := by decide +kernel
theorem dX0_forget_4 : decode cX0_forget 4 = .ok (.istore 5, 2) := by decide +kernel
theorem dX0_forget_6 : decode cX0_forget 6 = .ok (.iload 5, 2) := by decide +kernel
theorem dX0_forget_8 : decode cX0_forget 8 = .ok (.aload_n 0, 1) := by decide +kernel
theorem dX0_forget_9 : decode cX0_forget 9 = .ok (.getfield 18, 3) := by decide +kernel
theorem dX0_forget_12 : decode cX0_forget 12 = .ok (.if_icmp .ge 55, 3) := by decide +kernel
theorem dX0_forget_15 : decode cX0_forget 15 = .ok (.aload_n 0, 1) := by decide +kernel
theorem dX0_forget_16 : decode cX0_forget 16 = .ok (.getfield 11, 3) := by decide +kernel
theorem dX0_forget_19 : decode cX0_forget 19 = .ok (.iload 5, 2) := by decide +kernel
theorem dX0_forget_21 : decode cX0_forget 21 = .ok (.aaload, 1) := by decide +kernel
theorem dX0_forget_22 : decode cX0_forget 22 = .ok (.astore 6, 2) := by decide +kernel
theorem dX0_forget_24 : decode cX0_forget 24 = .ok (.aload 6, 2) := by decide +kernel
theorem dX0_forget_26 : decode cX0_forget 26 = .ok (.iload_n 1, 1) := by decide +kernel
theorem dX0_forget_27 : decode cX0_forget 27 = .ok (.iload_n 2, 1) := by decide +kernel
theorem dX0_forget_28 : decode cX0_forget 28 = .ok (.iload_n 3, 1) := by decide +kernel
theorem dX0_forget_29 : decode cX0_forget 29 = .ok (.invokestatic 76, 3) := by decide +kernel
theorem dX0_forget_32 : decode cX0_forget 32 = .ok (.ifCond .ne 29, 3) := by decide +kernel
theorem dX0_forget_35 : decode cX0_forget 35 = .ok (.aload_n 0, 1) := by decide +kernel
theorem dX0_forget_36 : decode cX0_forget 36 = .ok (.getfield 11, 3) := by decide +kernel
theorem dX0_forget_39 : decode cX0_forget 39 = .ok (.iload 5, 2) := by decide +kernel
theorem dX0_forget_41 : decode cX0_forget 41 = .ok (.aload_n 0, 1) := by decide +kernel
theorem dX0_forget_42 : decode cX0_forget 42 = .ok (.getfield 11, 3) := by decide +kernel
theorem dX0_forget_45 : decode cX0_forget 45 = .ok (.iload 4, 2) := by decide +kernel
theorem dX0_forget_47 : decode cX0_forget 47 = .ok (.aaload, 1) := by decide +kernel
theorem dX0_forget_48 : decode cX0_forget 48 = .ok (.aastore, 1) := by decide +kernel
theorem dX0_forget_49 : decode cX0_forget 49 = .ok (.aload_n 0, 1) := by decide +kernel
theorem dX0_forget_50 : decode cX0_forget 50 = .ok (.getfield 11, 3) := by decide +kernel
theorem dX0_forget_53 : decode cX0_forget 53 = .ok (.iload 4, 2) := by decide +kernel
theorem dX0_forget_55 : decode cX0_forget 55 = .ok (.aload 6, 2) := by decide +kernel
theorem dX0_forget_57 : decode cX0_forget 57 = .ok (.aastore, 1) := by decide +kernel
theorem dX0_forget_58 : decode cX0_forget 58 = .ok (.iinc 4 1, 3) := by decide +kernel
theorem dX0_forget_61 : decode cX0_forget 61 = .ok (.iinc 5 1, 3) := by decide +kernel
theorem dX0_forget_64 : decode cX0_forget 64 = .ok (.goto (-58), 3) := by decide +kernel
theorem dX0_forget_67 : decode cX0_forget 67 = .ok (.aload_n 0, 1) := by decide +kernel
theorem dX0_forget_68 : decode cX0_forget 68 = .ok (.getfield 18, 3) := by decide +kernel
theorem dX0_forget_71 : decode cX0_forget 71 = .ok (.iload 4, 2) := by decide +kernel
theorem dX0_forget_73 : decode cX0_forget 73 = .ok (.isub, 1) := by decide +kernel
theorem dX0_forget_74 : decode cX0_forget 74 = .ok (.istore 5, 2) := by decide +kernel
theorem dX0_forget_76 : decode cX0_forget 76 = .ok (.aload_n 0, 1) := by decide +kernel
theorem dX0_forget_77 : decode cX0_forget 77 = .ok (.iload 4, 2) := by decide +kernel
theorem dX0_forget_79 : decode cX0_forget 79 = .ok (.putfield 18, 3) := by decide +kernel
theorem dX0_forget_82 : decode cX0_forget 82 = .ok (.iload 5, 2) := by decide +kernel
theorem dX0_forget_84 : decode cX0_forget 84 = .ok (.ireturn, 1) := by decide +kernel
theorem dX0_isMeant_0 : decode cX0_isMeant 0 = .ok (.iload_n 1, 1) := by decide +kernel
theorem dX0_isMeant_1 : decode cX0_isMeant 1 = .ok (.lookupswitch 43 #[(0, 27), (1, 29)], 27) := by decide +kernel
theorem dX0_isMeant_28 : decode cX0_isMeant 28 = .ok (.iconst 1, 1) := by decide +kernel
theorem dX0_isMeant_29 : decode cX0_isMeant 29 = .ok (.ireturn, 1) := by decide +kernel
theorem dX0_isMeant_30 : decode cX0_isMeant 30 = .ok (.aload_n 0, 1) := by decide +kernel
theorem dX0_isMeant_31 : decode cX0_isMeant 31 = .ok (.getfield 35, 3) := by decide +kernel
theorem dX0_isMeant_34 : decode cX0_isMeant 34 = .ok (.iload_n 2, 1) := by decide +kernel
theorem dX0_isMeant_35 : decode cX0_isMeant 35 = .ok (.if_icmp .ne 7, 3) := by decide +kernel
theorem dX0_isMeant_38 : decode cX0_isMeant 38 = .ok (.iconst 1, 1) := by decide +kernel
theorem dX0_isMeant_39 : decode cX0_isMeant 39 = .ok (.goto 4, 3) := by decide +kernel
theorem dX0_isMeant_42 : decode cX0_isMeant 42 = .ok (.iconst 0, 1) := by decide +kernel
theorem dX0_isMeant_43 : decode cX0_isMeant 43 = .ok (.ireturn, 1) := by decide +kernel
theorem dX0_isMeant_44 : decode cX0_isMeant 44 = .ok (.aload_n 0, 1) := by decide +kernel
theorem dX0_isMeant_45 : decode cX0_isMeant 45 = .ok (.iload_n 2, 1) := by decide +kernel
theorem dX0_isMeant_46 : decode cX0_isMeant 46 = .ok (.iload_n 3, 1) := by decide +kernel
theorem dX0_isMeant_47 : decode cX0_isMeant 47 = .ok (.invokevirtual 22, 3) := by decide +kernel
theorem dX0_isMeant_50 : decode cX0_isMeant 50 = .ok (.ireturn, 1) := by decide +kernel
theorem dX1_init_0 : decode cX1_init 0 = .ok (.aload_n 0, 1) := by decide +kernel
theorem dX1_init_1 : decode cX1_init 1 = .ok (.invokespecial 1, 3) := by decide +kernel
theorem dX1_init_4 : decode cX1_init 4 = .ok (.return_, 1) := by decide +kernel
theorem dX1_standsFor_0 : decode cX1_standsFor 0 = .ok (.aload_n 0, 1) := by decide +kernel
theorem dX1_standsFor_1 : decode cX1_standsFor 1 = .ok (.getfield 7, 3) := by decide +kernel
theorem dX1_standsFor_4 : decode cX1_standsFor 4 = .ok (.iload_n 1, 1) := by decide +kernel
theorem dX1_standsFor_5 : decode cX1_standsFor 5 = .ok (.if_icmp .ne 23, 3) := by decide +kernel
theorem dX1_standsFor_8 : decode cX1_standsFor 8 = .ok (.aload_n 0, 1) := by decide +kernel
theorem dX1_standsFor_9 : decode cX1_standsFor 9 = .ok (.getfield 13, 3) := by decide +kernel
theorem dX1_standsFor_12 : decode cX1_standsFor 12 = .ok (.iload_n 2, 1) := by decide +kernel
theorem dX1_standsFor_13 : decode cX1_standsFor 13 = .ok (.aload_n 0, 1) := by decide +kernel
theorem dX1_standsFor_14 : decode cX1_standsFor 14 = .ok (.getfield 16, 3) := by decide +kernel
theorem dX1_standsFor_17 : decode cX1_standsFor 17 = .ok (.invokestatic 19, 3) := by decide +kernel
theorem dX1_standsFor_20 : decode cX1_standsFor 20 = .ok (.iushr, 1) := by decide +kernel
theorem dX1_standsFor_21 : decode cX1_standsFor 21 = .ok (.if_icmp .ne 7, 3) := by decide +kernel
theorem dX1_standsFor_24 : decode cX1_standsFor 24 = .ok (.iconst 1, 1) := by decide +kernel
theorem dX1_standsFor_25 : decode cX1_standsFor 25 = .ok (.goto 4, 3) := by decide +kernel
theorem dX1_standsFor_28 : decode cX1_standsFor 28 = .ok (.iconst 0, 1) := by decide +kernel
theorem dX1_standsFor_29 : decode cX1_standsFor 29 = .ok (.ireturn, 1) := by decide +kernel
theorem dX1_part_0 : decode cX1_part 0 = .ok (.iload_n 1, 1) := by decide +kernel
theorem dX1_part_1 : decode cX1_part 1 = .ok (.tableswitch 60 0 4 #[35, 40, 45, 50, 55], 35) := by decide +kernel
theorem dX1_part_36 : decode cX1_part 36 = .ok (.aload_n 0, 1) := by decide +kernel
theorem dX1_part_37 : decode cX1_part 37 = .ok (.getfield 7, 3) := by decide +kernel
theorem dX1_part_40 : decode cX1_part 40 = .ok (.ireturn, 1) := by decide +kernel
theorem dX1_part_41 : decode cX1_part 41 = .ok (.aload_n 0, 1) := by decide +kernel
theorem dX1_part_42 : decode cX1_part 42 = .ok (.getfield 16, 3) := by decide +kernel
theorem dX1_part_45 : decode cX1_part 45 = .ok (.ireturn, 1) := by decide +kernel
theorem dX1_part_46 : decode cX1_part 46 = .ok (.aload_n 0, 1) := by decide +kernel
theorem dX1_part_47 : decode cX1_part 47 = .ok (.getfield 13, 3) := by decide +kernel
theorem dX1_part_50 : decode cX1_part 50 = .ok (.ireturn, 1) := by decide +kernel
theorem dX1_part_51 : decode cX1_part 51 = .ok (.aload_n 0, 1) := by decide +kernel
theorem dX1_part_52 : decode cX1_part 52 = .ok (.getfield 25, 3) := by decide +kernel
theorem dX1_part_55 : decode cX1_part 55 = .ok (.ireturn, 1) := by decide +kernel
theorem dX1_part_56 : decode cX1_part 56 = .ok (.aload_n 0, 1) := by decide +kernel
theorem dX1_part_57 : decode cX1_part 57 = .ok (.getfield 28, 3) := by decide +kernel
theorem dX1_part_60 : decode cX1_part 60 = .ok (.ireturn, 1) := by decide +kernel
theorem dX1_part_61 : decode cX1_part 61 = .ok (.aload_n 0, 1) := by decide +kernel
theorem dX1_part_62 : decode cX1_part 62 = .ok (.getfield 31, 3) := by decide +kernel
theorem dX1_part_65 : decode cX1_part 65 = .ok (.ifCond .eq 7, 3) := by decide +kernel
theorem dX1_part_68 : decode cX1_part 68 = .ok (.iconst 1, 1) := by decide +kernel
theorem dX1_part_69 : decode cX1_part 69 = .ok (.goto 4, 3) := by decide +kernel
theorem dX1_part_72 : decode cX1_part 72 = .ok (.iconst 0, 1) := by decide +kernel
theorem dX1_part_73 : decode cX1_part 73 = .ok (.ireturn, 1) := by decide +kernel
theorem dX2_init_0 : decode cX2_init 0 = .ok (.aload_n 0, 1) := by decide +kernel
theorem dX2_init_1 : decode cX2_init 1 = .ok (.invokespecial 3, 3) := by decide +kernel
theorem dX2_init_4 : decode cX2_init 4 = .ok (.aload_n 0, 1) := by decide +kernel
theorem dX2_init_5 : decode cX2_init 5 = .ok (.sipush 4096, 3) := by decide +kernel
theorem dX2_init_8 : decode cX2_init 8 = .ok (.newarray .long, 2) := by decide +kernel
theorem dX2_init_10 : decode cX2_init 10 = .ok (.putfield 9, 3) := by decide +kernel
theorem dX2_init_13 : decode cX2_init 13 = .ok (.aload_n 0, 1) := by decide +kernel
theorem dX2_init_14 : decode cX2_init 14 = .ok (.sipush 256, 3) := by decide +kernel
theorem dX2_init_17 : decode cX2_init 17 = .ok (.newarray .int, 2) := by decide +kernel
theorem dX2_init_19 : decode cX2_init 19 = .ok (.putfield 15, 3) := by decide +kernel
theorem dX2_init_22 : decode cX2_init 22 = .ok (.iconst 0, 1) := by decide +kernel
theorem dX2_init_23 : decode cX2_init 23 = .ok (.istore_n 1, 1) := by decide +kernel
theorem dX2_init_24 : decode cX2_init 24 = .ok (.iload_n 1, 1) := by decide +kernel
theorem dX2_init_25 : decode cX2_init 25 = .ok (.sipush 256, 3) := by decide +kernel
theorem dX2_init_28 : decode cX2_init 28 = .ok (.if_icmp .ge 16, 3) := by decide +kernel
theorem dX2_init_31 : decode cX2_init 31 = .ok (.aload_n 0, 1) := by decide +kernel
theorem dX2_init_32 : decode cX2_init 32 = .ok (.getfield 15, 3) := by decide +kernel
theorem dX2_init_35 : decode cX2_init 35 = .ok (.iload_n 1, 1) := by decide +kernel
theorem dX2_init_36 : decode cX2_init 36 = .ok (.iconst (-1), 1) := by decide +kernel
theorem dX2_init_37 : decode cX2_init 37 = .ok (.iastore, 1) := by decide +kernel
theorem dX2_init_38 : decode cX2_init 38 = .ok (.iinc 1 1, 3) := by decide +kernel
theorem dX2_init_41 : decode cX2_init 41 = .ok (.goto (-17), 3) := by decide +kernel
theorem dX2_init_44 : decode cX2_init 44 = .ok (.return_, 1) := by decide +kernel
theorem dX2_homeOf_0 : decode cX2_homeOf 0 = .ok (.aload_n 0, 1) := by decide +kernel
theorem dX2_homeOf_1 : decode cX2_homeOf 1 = .ok (.getfield 19, 3) := by decide +kernel
theorem dX2_homeOf_4 : decode cX2_homeOf 4 = .ok (.ifCond .ne 5, 3) := by decide +kernel
theorem dX2_homeOf_7 : decode cX2_homeOf 7 = .ok (.iload_n 1, 1) := by decide +kernel
theorem dX2_homeOf_8 : decode cX2_homeOf 8 = .ok (.ireturn, 1) := by decide +kernel
theorem dX2_homeOf_9 : decode cX2_homeOf 9 = .ok (.iload_n 1, 1) := by decide +kernel
theorem dX2_homeOf_10 : decode cX2_homeOf 10 = .ok (.ifCond .lt 19, 3) := by decide +kernel
theorem dX2_homeOf_13 : decode cX2_homeOf 13 = .ok (.iload_n 1, 1) := by decide +kernel
theorem dX2_homeOf_14 : decode cX2_homeOf 14 = .ok (.sipush 256, 3) := by decide +kernel
theorem dX2_homeOf_17 : decode cX2_homeOf 17 = .ok (.if_icmp .ge 12, 3) := by decide +kernel
theorem dX2_homeOf_20 : decode cX2_homeOf 20 = .ok (.aload_n 0, 1) := by decide +kernel
theorem dX2_homeOf_21 : decode cX2_homeOf 21 = .ok (.getfield 15, 3) := by decide +kernel
theorem dX2_homeOf_24 : decode cX2_homeOf 24 = .ok (.iload_n 1, 1) := by decide +kernel
theorem dX2_homeOf_25 : decode cX2_homeOf 25 = .ok (.iaload, 1) := by decide +kernel
theorem dX2_homeOf_26 : decode cX2_homeOf 26 = .ok (.goto 4, 3) := by decide +kernel
theorem dX2_homeOf_29 : decode cX2_homeOf 29 = .ok (.iconst (-1), 1) := by decide +kernel
theorem dX2_homeOf_30 : decode cX2_homeOf 30 = .ok (.ireturn, 1) := by decide +kernel
theorem dX2_reach_0 : decode cX2_reach 0 = .ok (.iload_n 3, 1) := by decide +kernel
theorem dX2_reach_1 : decode cX2_reach 1 = .ok (.iconst 1, 1) := by decide +kernel
theorem dX2_reach_2 : decode cX2_reach 2 = .ok (.iload_n 2, 1) := by decide +kernel
theorem dX2_reach_3 : decode cX2_reach 3 = .ok (.invokestatic 23, 3) := by decide +kernel
theorem dX2_reach_6 : decode cX2_reach 6 = .ok (.ishl, 1) := by decide +kernel
theorem dX2_reach_7 : decode cX2_reach 7 = .ok (.iconst 1, 1) := by decide +kernel
theorem dX2_reach_8 : decode cX2_reach 8 = .ok (.isub, 1) := by decide +kernel
theorem dX2_reach_9 : decode cX2_reach 9 = .ok (.iand, 1) := by decide +kernel
theorem dX2_reach_10 : decode cX2_reach 10 = .ok (.bipush 8, 2) := by decide +kernel
theorem dX2_reach_12 : decode cX2_reach 12 = .ok (.ishr, 1) := by decide +kernel
theorem dX2_reach_13 : decode cX2_reach 13 = .ok (.istore 4, 2) := by decide +kernel
theorem dX2_reach_15 : decode cX2_reach 15 = .ok (.aload_n 0, 1) := by decide +kernel
theorem dX2_reach_16 : decode cX2_reach 16 = .ok (.iload_n 1, 1) := by decide +kernel
theorem dX2_reach_17 : decode cX2_reach 17 = .ok (.iload 4, 2) := by decide +kernel
theorem dX2_reach_19 : decode cX2_reach 19 = .ok (.iadd, 1) := by decide +kernel
theorem dX2_reach_20 : decode cX2_reach 20 = .ok (.invokevirtual 27, 3) := by decide +kernel
theorem dX2_reach_23 : decode cX2_reach 23 = .ok (.istore 5, 2) := by decide +kernel
theorem dX2_reach_25 : decode cX2_reach 25 = .ok (.iload 5, 2) := by decide +kernel
theorem dX2_reach_27 : decode cX2_reach 27 = .ok (.iconst (-1), 1) := by decide +kernel
theorem dX2_reach_28 : decode cX2_reach 28 = .ok (.if_icmp .ne 7, 3) := by decide +kernel
theorem dX2_reach_31 : decode cX2_reach 31 = .ok (.iconst (-1), 1) := by decide +kernel
theorem dX2_reach_32 : decode cX2_reach 32 = .ok (.goto 14, 3) := by decide +kernel
theorem dX2_reach_35 : decode cX2_reach 35 = .ok (.iload 5, 2) := by decide +kernel
theorem dX2_reach_37 : decode cX2_reach 37 = .ok (.bipush 8, 2) := by decide +kernel
theorem dX2_reach_39 : decode cX2_reach 39 = .ok (.ishl, 1) := by decide +kernel
theorem dX2_reach_40 : decode cX2_reach 40 = .ok (.iload_n 3, 1) := by decide +kernel
theorem dX2_reach_41 : decode cX2_reach 41 = .ok (.sipush 255, 3) := by decide +kernel
theorem dX2_reach_44 : decode cX2_reach 44 = .ok (.iand, 1) := by decide +kernel
theorem dX2_reach_45 : decode cX2_reach 45 = .ok (.iadd, 1) := by decide +kernel
theorem dX2_reach_46 : decode cX2_reach 46 = .ok (.ireturn, 1) := by decide +kernel
theorem dX3_init_0 : decode cX3_init 0 = .ok (.aload_n 0, 1) := by decide +kernel
theorem dX3_init_1 : decode cX3_init 1 = .ok (.invokespecial 3, 3) := by decide +kernel
theorem dX3_init_4 : decode cX3_init 4 = .ok (.aload_n 0, 1) := by decide +kernel
theorem dX3_init_5 : decode cX3_init 5 = .ok (.aload_n 1, 1) := by decide +kernel
theorem dX3_init_6 : decode cX3_init 6 = .ok (.putfield 9, 3) := by decide +kernel
theorem dX3_init_9 : decode cX3_init 9 = .ok (.aload_n 0, 1) := by decide +kernel
theorem dX3_init_10 : decode cX3_init 10 = .ok (.iload_n 2, 1) := by decide +kernel
theorem dX3_init_11 : decode cX3_init 11 = .ok (.putfield 15, 3) := by decide +kernel
theorem dX3_init_14 : decode cX3_init 14 = .ok (.aload_n 0, 1) := by decide +kernel
theorem dX3_init_15 : decode cX3_init 15 = .ok (.iconst 4, 1) := by decide +kernel
theorem dX3_init_16 : decode cX3_init 16 = .ok (.newarray .int, 2) := by decide +kernel
theorem dX3_init_18 : decode cX3_init 18 = .ok (.putfield 19, 3) := by decide +kernel
theorem dX3_init_21 : decode cX3_init 21 = .ok (.return_, 1) := by decide +kernel
theorem dX3_follow_0 : decode cX3_follow 0 = .ok (.aload_n 0, 1) := by decide +kernel
theorem dX3_follow_1 : decode cX3_follow 1 = .ok (.iconst 0, 1) := by decide +kernel
theorem dX3_follow_2 : decode cX3_follow 2 = .ok (.putfield 23, 3) := by decide +kernel
theorem dX3_follow_5 : decode cX3_follow 5 = .ok (.aload_n 0, 1) := by decide +kernel
theorem dX3_follow_6 : decode cX3_follow 6 = .ok (.iconst (-1), 1) := by decide +kernel
theorem dX3_follow_7 : decode cX3_follow 7 = .ok (.putfield 26, 3) := by decide +kernel
theorem dX3_follow_10 : decode cX3_follow 10 = .ok (.aload_n 0, 1) := by decide +kernel
theorem dX3_follow_11 : decode cX3_follow 11 = .ok (.iconst (-1), 1) := by decide +kernel
theorem dX3_follow_12 : decode cX3_follow 12 = .ok (.putfield 29, 3) := by decide +kernel
theorem dX3_follow_15 : decode cX3_follow 15 = .ok (.aload_n 0, 1) := by decide +kernel
theorem dX3_follow_16 : decode cX3_follow 16 = .ok (.iload_n 2, 1) := by decide +kernel
theorem dX3_follow_17 : decode cX3_follow 17 = .ok (.invokevirtual 32, 3) := by decide +kernel
theorem dX3_follow_20 : decode cX3_follow 20 = .ok (.ifCond .eq 10, 3) := by decide +kernel
theorem dX3_follow_23 : decode cX3_follow 23 = .ok (.aload_n 0, 1) := by decide +kernel
theorem dX3_follow_24 : decode cX3_follow 24 = .ok (.iconst 1, 1) := by decide +kernel
theorem dX3_follow_25 : decode cX3_follow 25 = .ok (.iconst 0, 1) := by decide +kernel
theorem dX3_follow_26 : decode cX3_follow 26 = .ok (.invokevirtual 36, 3) := by decide +kernel
theorem dX3_follow_29 : decode cX3_follow 29 = .ok (.ireturn, 1) := by decide +kernel
theorem dX3_follow_30 : decode cX3_follow 30 = .ok (.iload_n 1, 1) := by decide +kernel
theorem dX3_follow_31 : decode cX3_follow 31 = .ok (.istore 4, 2) := by decide +kernel
theorem dX3_follow_33 : decode cX3_follow 33 = .ok (.aload_n 0, 1) := by decide +kernel
theorem dX3_follow_34 : decode cX3_follow 34 = .ok (.getfield 15, 3) := by decide +kernel
theorem dX3_follow_37 : decode cX3_follow 37 = .ok (.istore 5, 2) := by decide +kernel
theorem dX3_follow_39 : decode cX3_follow 39 = .ok (.iinc 5 (-1), 3) := by decide +kernel
theorem dX3_follow_42 : decode cX3_follow 42 = .ok (.aload_n 0, 1) := by decide +kernel
theorem dX3_follow_43 : decode cX3_follow 43 = .ok (.iload 4, 2) := by decide +kernel
theorem dX3_follow_45 : decode cX3_follow 45 = .ok (.iload_n 2, 1) := by decide +kernel
theorem dX3_follow_46 : decode cX3_follow 46 = .ok (.iload 5, 2) := by decide +kernel
theorem dX3_follow_48 : decode cX3_follow 48 = .ok (.invokestatic 40, 3) := by decide +kernel
theorem dX3_follow_51 : decode cX3_follow 51 = .ok (.ishr, 1) := by decide +kernel
theorem dX3_follow_52 : decode cX3_follow 52 = .ok (.invokevirtual 44, 3) := by decide +kernel
theorem dX3_follow_55 : decode cX3_follow 55 = .ok (.istore 6, 2) := by decide +kernel
theorem dX3_follow_57 : decode cX3_follow 57 = .ok (.iload 6, 2) := by decide +kernel
theorem dX3_follow_59 : decode cX3_follow 59 = .ok (.ifCond .eq 19, 3) := by decide +kernel
theorem dX3_follow_62 : decode cX3_follow 62 = .ok (.aload_n 0, 1) := by decide +kernel
theorem dX3_follow_63 : decode cX3_follow 63 = .ok (.iload 6, 2) := by decide +kernel
theorem dX3_follow_65 : decode cX3_follow 65 = .ok (.aload_n 0, 1) := by decide +kernel
theorem dX3_follow_66 : decode cX3_follow 66 = .ok (.getfield 15, 3) := by decide +kernel
theorem dX3_follow_69 : decode cX3_follow 69 = .ok (.iconst 1, 1) := by decide +kernel
theorem dX3_follow_70 : decode cX3_follow 70 = .ok (.isub, 1) := by decide +kernel
theorem dX3_follow_71 : decode cX3_follow 71 = .ok (.iload 5, 2) := by decide +kernel
theorem dX3_follow_73 : decode cX3_follow 73 = .ok (.isub, 1) := by decide +kernel
theorem dX3_follow_74 : decode cX3_follow 74 = .ok (.invokevirtual 36, 3) := by decide +kernel
theorem dX3_follow_77 : decode cX3_follow 77 = .ok (.ireturn, 1) := by decide +kernel
theorem dX3_follow_78 : decode cX3_follow 78 = .ok (.aload_n 0, 1) := by decide +kernel
theorem dX3_follow_79 : decode cX3_follow 79 = .ok (.getfield 47, 3) := by decide +kernel
theorem dX3_follow_82 : decode cX3_follow 82 = .ok (.invokestatic 51, 3) := by decide +kernel
theorem dX3_follow_85 : decode cX3_follow 85 = .ok (.istore 4, 2) := by decide +kernel
theorem dX3_follow_87 : decode cX3_follow 87 = .ok (.iload 5, 2) := by decide +kernel
theorem dX3_follow_89 : decode cX3_follow 89 = .ok (.ifCond .le 16, 3) := by decide +kernel
theorem dX3_follow_92 : decode cX3_follow 92 = .ok (.aload_n 0, 1) := by decide +kernel
theorem dX3_follow_93 : decode cX3_follow 93 = .ok (.getfield 47, 3) := by decide +kernel
theorem dX3_follow_96 : decode cX3_follow 96 = .ok (.ldc2_w 55, 3) := by decide +kernel
theorem dX3_follow_99 : decode cX3_follow 99 = .ok (.land, 1) := by decide +kernel
theorem dX3_follow_100 : decode cX3_follow 100 = .ok (.lconst 0, 1) := by decide +kernel
theorem dX3_follow_101 : decode cX3_follow 101 = .ok (.lcmp, 1) := by decide +kernel
theorem dX3_follow_102 : decode cX3_follow 102 = .ok (.ifCond .eq (-63), 3) := by decide +kernel
theorem dX3_follow_105 : decode cX3_follow 105 = .ok (.aload_n 0, 1) := by decide +kernel
theorem dX3_follow_106 : decode cX3_follow 106 = .ok (.iload 5, 2) := by decide +kernel
theorem dX3_follow_108 : decode cX3_follow 108 = .ok (.putfield 57, 3) := by decide +kernel
theorem dX3_follow_111 : decode cX3_follow 111 = .ok (.aload_n 0, 1) := by decide +kernel
theorem dX3_follow_112 : decode cX3_follow 112 = .ok (.iload_n 3, 1) := by decide +kernel
theorem dX3_follow_113 : decode cX3_follow 113 = .ok (.invokevirtual 60, 3) := by decide +kernel
theorem dX3_follow_116 : decode cX3_follow 116 = .ok (.istore 6, 2) := by decide +kernel
theorem dX3_follow_118 : decode cX3_follow 118 = .ok (.iload 6, 2) := by decide +kernel
theorem dX3_follow_120 : decode cX3_follow 120 = .ok (.ifCond .eq 19, 3) := by decide +kernel
theorem dX3_follow_123 : decode cX3_follow 123 = .ok (.aload_n 0, 1) := by decide +kernel
theorem dX3_follow_124 : decode cX3_follow 124 = .ok (.iload 6, 2) := by decide +kernel
theorem dX3_follow_126 : decode cX3_follow 126 = .ok (.aload_n 0, 1) := by decide +kernel
theorem dX3_follow_127 : decode cX3_follow 127 = .ok (.getfield 15, 3) := by decide +kernel
theorem dX3_follow_130 : decode cX3_follow 130 = .ok (.iconst 1, 1) := by decide +kernel
theorem dX3_follow_131 : decode cX3_follow 131 = .ok (.isub, 1) := by decide +kernel
theorem dX3_follow_132 : decode cX3_follow 132 = .ok (.iload 5, 2) := by decide +kernel
theorem dX3_follow_134 : decode cX3_follow 134 = .ok (.isub, 1) := by decide +kernel
theorem dX3_follow_135 : decode cX3_follow 135 = .ok (.invokevirtual 36, 3) := by decide +kernel
theorem dX3_follow_138 : decode cX3_follow 138 = .ok (.ireturn, 1) := by decide +kernel
theorem dX3_follow_139 : decode cX3_follow 139 = .ok (.aload_n 0, 1) := by decide +kernel
theorem dX3_follow_140 : decode cX3_follow 140 = .ok (.aload_n 0, 1) := by decide +kernel
theorem dX3_follow_141 : decode cX3_follow 141 = .ok (.getfield 9, 3) := by decide +kernel
theorem dX3_follow_144 : decode cX3_follow 144 = .ok (.iload 4, 2) := by decide +kernel
theorem dX3_follow_146 : decode cX3_follow 146 = .ok (.aload_n 0, 1) := by decide +kernel
theorem dX3_follow_147 : decode cX3_follow 147 = .ok (.getfield 57, 3) := by decide +kernel
theorem dX3_follow_150 : decode cX3_follow 150 = .ok (.iload_n 2, 1) := by decide +kernel
theorem dX3_follow_151 : decode cX3_follow 151 = .ok (.invokevirtual 63, 3) := by decide +kernel
theorem dX3_follow_154 : decode cX3_follow 154 = .ok (.putfield 29, 3) := by decide +kernel
theorem dX3_follow_157 : decode cX3_follow 157 = .ok (.aload_n 0, 1) := by decide +kernel
theorem dX3_follow_158 : decode cX3_follow 158 = .ok (.getfield 29, 3) := by decide +kernel
theorem dX3_follow_161 : decode cX3_follow 161 = .ok (.iconst (-1), 1) := by decide +kernel
theorem dX3_follow_162 : decode cX3_follow 162 = .ok (.if_icmp .ne 16, 3) := by decide +kernel
theorem dX3_follow_165 : decode cX3_follow 165 = .ok (.aload_n 0, 1) := by decide +kernel
theorem dX3_follow_166 : decode cX3_follow 166 = .ok (.bipush 6, 2) := by decide +kernel
theorem dX3_follow_168 : decode cX3_follow 168 = .ok (.aload_n 0, 1) := by decide +kernel
theorem dX3_follow_169 : decode cX3_follow 169 = .ok (.getfield 15, 3) := by decide +kernel
theorem dX3_follow_172 : decode cX3_follow 172 = .ok (.invokevirtual 36, 3) := by decide +kernel
theorem dX3_follow_175 : decode cX3_follow 175 = .ok (.goto 4, 3) := by decide +kernel
theorem dX3_follow_178 : decode cX3_follow 178 = .ok (.iconst 0, 1) := by decide +kernel
theorem dX3_follow_179 : decode cX3_follow 179 = .ok (.ireturn, 1) := by decide +kernel
theorem dX3_isOutside_0 : decode cX3_isOutside 0 = .ok (.iload_n 1, 1) := by decide +kernel
theorem dX3_isOutside_1 : decode cX3_isOutside 1 = .ok (.ifCond .lt 16, 3) := by decide +kernel
theorem dX3_isOutside_4 : decode cX3_isOutside 4 = .ok (.iload_n 1, 1) := by decide +kernel
theorem dX3_isOutside_5 : decode cX3_isOutside 5 = .ok (.iconst 1, 1) := by decide +kernel
theorem dX3_isOutside_6 : decode cX3_isOutside 6 = .ok (.aload_n 0, 1) := by decide +kernel
theorem dX3_isOutside_7 : decode cX3_isOutside 7 = .ok (.getfield 15, 3) := by decide +kernel
theorem dX3_isOutside_10 : decode cX3_isOutside 10 = .ok (.invokestatic 40, 3) := by decide +kernel
theorem dX3_isOutside_13 : decode cX3_isOutside 13 = .ok (.ishl, 1) := by decide +kernel
theorem dX3_isOutside_14 : decode cX3_isOutside 14 = .ok (.if_icmp .lt 7, 3) := by decide +kernel
theorem dX3_isOutside_17 : decode cX3_isOutside 17 = .ok (.iconst 1, 1) := by decide +kernel
theorem dX3_isOutside_18 : decode cX3_isOutside 18 = .ok (.goto 4, 3) := by decide +kernel
theorem dX3_isOutside_21 : decode cX3_isOutside 21 = .ok (.iconst 0, 1) := by decide +kernel
theorem dX3_isOutside_22 : decode cX3_isOutside 22 = .ok (.ireturn, 1) := by decide +kernel
theorem dX3_stop_0 : decode cX3_stop 0 = .ok (.aload_n 0, 1) := by decide +kernel
theorem dX3_stop_1 : decode cX3_stop 1 = .ok (.iload_n 2, 1) := by decide +kernel
theorem dX3_stop_2 : decode cX3_stop 2 = .ok (.putfield 26, 3) := by decide +kernel
theorem dX3_stop_5 : decode cX3_stop 5 = .ok (.iload_n 1, 1) := by decide +kernel
theorem dX3_stop_6 : decode cX3_stop 6 = .ok (.ireturn, 1) := by decide +kernel
theorem dX3_read_0 : decode cX3_read 0 = .ok (.aload_n 0, 1) := by decide +kernel
theorem dX3_read_1 : decode cX3_read 1 = .ok (.getfield 9, 3) := by decide +kernel
theorem dX3_read_4 : decode cX3_read 4 = .ok (.iload_n 1, 1) := by decide +kernel
theorem dX3_read_5 : decode cX3_read 5 = .ok (.invokevirtual 69, 3) := by decide +kernel
theorem dX3_read_8 : decode cX3_read 8 = .ok (.istore_n 3, 1) := by decide +kernel
theorem dX3_read_9 : decode cX3_read 9 = .ok (.iload_n 3, 1) := by decide +kernel
theorem dX3_read_10 : decode cX3_read 10 = .ok (.iconst (-1), 1) := by decide +kernel
theorem dX3_read_11 : decode cX3_read 11 = .ok (.if_icmp .ne 6, 3) := by decide +kernel
theorem dX3_read_14 : decode cX3_read 14 = .ok (.bipush 6, 2) := by decide +kernel
theorem dX3_read_16 : decode cX3_read 16 = .ok (.ireturn, 1) := by decide +kernel
theorem dX3_read_17 : decode cX3_read 17 = .ok (.iload_n 3, 1) := by decide +kernel
theorem dX3_read_18 : decode cX3_read 18 = .ok (.sipush 256, 3) := by decide +kernel
theorem dX3_read_21 : decode cX3_read 21 = .ok (.if_icmp .lt 5, 3) := by decide +kernel
theorem dX3_read_24 : decode cX3_read 24 = .ok (.iconst 5, 1) := by decide +kernel
theorem dX3_read_25 : decode cX3_read 25 = .ok (.ireturn, 1) := by decide +kernel
theorem dX3_read_26 : decode cX3_read 26 = .ok (.iload_n 3, 1) := by decide +kernel
theorem dX3_read_27 : decode cX3_read 27 = .ok (.bipush 16, 2) := by decide +kernel
theorem dX3_read_29 : decode cX3_read 29 = .ok (.imul, 1) := by decide +kernel
theorem dX3_read_30 : decode cX3_read 30 = .ok (.iload_n 2, 1) := by decide +kernel
theorem dX3_read_31 : decode cX3_read 31 = .ok (.bipush 15, 2) := by decide +kernel
theorem dX3_read_33 : decode cX3_read 33 = .ok (.iand, 1) := by decide +kernel
theorem dX3_read_34 : decode cX3_read 34 = .ok (.iadd, 1) := by decide +kernel
theorem dX3_read_35 : decode cX3_read 35 = .ok (.istore 4, 2) := by decide +kernel
theorem dX3_read_37 : decode cX3_read 37 = .ok (.aload_n 0, 1) := by decide +kernel
theorem dX3_read_38 : decode cX3_read 38 = .ok (.aload_n 0, 1) := by decide +kernel
theorem dX3_read_39 : decode cX3_read 39 = .ok (.getfield 9, 3) := by decide +kernel
theorem dX3_read_42 : decode cX3_read 42 = .ok (.getfield 72, 3) := by decide +kernel
theorem dX3_read_45 : decode cX3_read 45 = .ok (.iload 4, 2) := by decide +kernel
theorem dX3_read_47 : decode cX3_read 47 = .ok (.laload, 1) := by decide +kernel
theorem dX3_read_48 : decode cX3_read 48 = .ok (.putfield 47, 3) := by decide +kernel
theorem dX3_read_51 : decode cX3_read 51 = .ok (.aload_n 0, 1) := by decide +kernel
theorem dX3_read_52 : decode cX3_read 52 = .ok (.getfield 19, 3) := by decide +kernel
theorem dX3_read_55 : decode cX3_read 55 = .ok (.aload_n 0, 1) := by decide +kernel
theorem dX3_read_56 : decode cX3_read 56 = .ok (.getfield 23, 3) := by decide +kernel
theorem dX3_read_59 : decode cX3_read 59 = .ok (.iload 4, 2) := by decide +kernel
theorem dX3_read_61 : decode cX3_read 61 = .ok (.iastore, 1) := by decide +kernel
theorem dX3_read_62 : decode cX3_read 62 = .ok (.aload_n 0, 1) := by decide +kernel
theorem dX3_read_63 : decode cX3_read 63 = .ok (.dup, 1) := by decide +kernel
theorem dX3_read_64 : decode cX3_read 64 = .ok (.getfield 23, 3) := by decide +kernel
theorem dX3_read_67 : decode cX3_read 67 = .ok (.iconst 1, 1) := by decide +kernel
theorem dX3_read_68 : decode cX3_read 68 = .ok (.iadd, 1) := by decide +kernel
theorem dX3_read_69 : decode cX3_read 69 = .ok (.putfield 23, 3) := by decide +kernel
theorem dX3_read_72 : decode cX3_read 72 = .ok (.aload_n 0, 1) := by decide +kernel
theorem dX3_read_73 : decode cX3_read 73 = .ok (.getfield 47, 3) := by decide +kernel
theorem dX3_read_76 : decode cX3_read 76 = .ok (.lconst 1, 1) := by decide +kernel
theorem dX3_read_77 : decode cX3_read 77 = .ok (.land, 1) := by decide +kernel
theorem dX3_read_78 : decode cX3_read 78 = .ok (.lconst 0, 1) := by decide +kernel
theorem dX3_read_79 : decode cX3_read 79 = .ok (.lcmp, 1) := by decide +kernel
theorem dX3_read_80 : decode cX3_read 80 = .ok (.ifCond .ne 7, 3) := by decide +kernel
theorem dX3_read_83 : decode cX3_read 83 = .ok (.iconst 2, 1) := by decide +kernel
theorem dX3_read_84 : decode cX3_read 84 = .ok (.goto 4, 3) := by decide +kernel
theorem dX3_read_87 : decode cX3_read 87 = .ok (.iconst 0, 1) := by decide +kernel
theorem dX3_read_88 : decode cX3_read 88 = .ok (.ireturn, 1) := by decide +kernel
theorem dX3_leafFault_0 : decode cX3_leafFault 0 = .ok (.iconst 1, 1) := by decide +kernel
theorem dX3_leafFault_1 : decode cX3_leafFault 1 = .ok (.iconst 4, 1) := by decide +kernel
theorem dX3_leafFault_2 : decode cX3_leafFault 2 = .ok (.aload_n 0, 1) := by decide +kernel
theorem dX3_leafFault_3 : decode cX3_leafFault 3 = .ok (.getfield 57, 3) := by decide +kernel
theorem dX3_leafFault_6 : decode cX3_leafFault 6 = .ok (.imul, 1) := by decide +kernel
theorem dX3_leafFault_7 : decode cX3_leafFault 7 = .ok (.ishl, 1) := by decide +kernel
theorem dX3_leafFault_8 : decode cX3_leafFault 8 = .ok (.iconst 1, 1) := by decide +kernel
theorem dX3_leafFault_9 : decode cX3_leafFault 9 = .ok (.isub, 1) := by decide +kernel
theorem dX3_leafFault_10 : decode cX3_leafFault 10 = .ok (.istore_n 2, 1) := by decide +kernel
theorem dX3_leafFault_11 : decode cX3_leafFault 11 = .ok (.aload_n 0, 1) := by decide +kernel
theorem dX3_leafFault_12 : decode cX3_leafFault 12 = .ok (.getfield 47, 3) := by decide +kernel
theorem dX3_leafFault_15 : decode cX3_leafFault 15 = .ok (.invokestatic 51, 3) := by decide +kernel
theorem dX3_leafFault_18 : decode cX3_leafFault 18 = .ok (.iload_n 2, 1) := by decide +kernel
theorem dX3_leafFault_19 : decode cX3_leafFault 19 = .ok (.iand, 1) := by decide +kernel
theorem dX3_leafFault_20 : decode cX3_leafFault 20 = .ok (.ifCond .eq 5, 3) := by decide +kernel
theorem dX3_leafFault_23 : decode cX3_leafFault 23 = .ok (.iconst 4, 1) := by decide +kernel
theorem dX3_leafFault_24 : decode cX3_leafFault 24 = .ok (.ireturn, 1) := by decide +kernel
theorem dX3_leafFault_25 : decode cX3_leafFault 25 = .ok (.aload_n 0, 1) := by decide +kernel
theorem dX3_leafFault_26 : decode cX3_leafFault 26 = .ok (.getfield 47, 3) := by decide +kernel
theorem dX3_leafFault_29 : decode cX3_leafFault 29 = .ok (.invokestatic 76, 3) := by decide +kernel
theorem dX3_leafFault_32 : decode cX3_leafFault 32 = .ok (.iload_n 1, 1) := by decide +kernel
theorem dX3_leafFault_33 : decode cX3_leafFault 33 = .ok (.invokestatic 79, 3) := by decide +kernel
theorem dX3_leafFault_36 : decode cX3_leafFault 36 = .ok (.ifCond .eq 7, 3) := by decide +kernel
theorem dX3_leafFault_39 : decode cX3_leafFault 39 = .ok (.iconst 0, 1) := by decide +kernel
theorem dX3_leafFault_40 : decode cX3_leafFault 40 = .ok (.goto 4, 3) := by decide +kernel
theorem dX3_leafFault_43 : decode cX3_leafFault 43 = .ok (.iconst 3, 1) := by decide +kernel
theorem dX3_leafFault_44 : decode cX3_leafFault 44 = .ok (.ireturn, 1) := by decide +kernel
theorem dX3_mark_0 : decode cX3_mark 0 = .ok (.iconst 0, 1) := by decide +kernel
theorem dX3_mark_1 : decode cX3_mark 1 = .ok (.istore_n 2, 1) := by decide +kernel
theorem dX3_mark_2 : decode cX3_mark 2 = .ok (.iload_n 2, 1) := by decide +kernel
theorem dX3_mark_3 : decode cX3_mark 3 = .ok (.aload_n 0, 1) := by decide +kernel
theorem dX3_mark_4 : decode cX3_mark 4 = .ok (.getfield 23, 3) := by decide +kernel
theorem dX3_mark_7 : decode cX3_mark 7 = .ok (.if_icmp .ge 29, 3) := by decide +kernel
theorem dX3_mark_10 : decode cX3_mark 10 = .ok (.aload_n 0, 1) := by decide +kernel
theorem dX3_mark_11 : decode cX3_mark 11 = .ok (.getfield 9, 3) := by decide +kernel
theorem dX3_mark_14 : decode cX3_mark 14 = .ok (.getfield 72, 3) := by decide +kernel
theorem dX3_mark_17 : decode cX3_mark 17 = .ok (.aload_n 0, 1) := by decide +kernel
theorem dX3_mark_18 : decode cX3_mark 18 = .ok (.getfield 19, 3) := by decide +kernel
theorem dX3_mark_21 : decode cX3_mark 21 = .ok (.iload_n 2, 1) := by decide +kernel
theorem dX3_mark_22 : decode cX3_mark 22 = .ok (.iaload, 1) := by decide +kernel
theorem dX3_mark_23 : decode cX3_mark 23 = .ok (.dup2, 1) := by decide +kernel
theorem dX3_mark_24 : decode cX3_mark 24 = .ok (.laload, 1) := by decide +kernel
theorem dX3_mark_25 : decode cX3_mark 25 = .ok (.ldc2_w 83, 3) := by decide +kernel
theorem dX3_mark_28 : decode cX3_mark 28 = .ok (.lor, 1) := by decide +kernel
theorem dX3_mark_29 : decode cX3_mark 29 = .ok (.lastore, 1) := by decide +kernel
theorem dX3_mark_30 : decode cX3_mark 30 = .ok (.iinc 2 1, 3) := by decide +kernel
theorem dX3_mark_33 : decode cX3_mark 33 = .ok (.goto (-31), 3) := by decide +kernel
theorem dX3_mark_36 : decode cX3_mark 36 = .ok (.aload_n 0, 1) := by decide +kernel
theorem dX3_mark_37 : decode cX3_mark 37 = .ok (.getfield 23, 3) := by decide +kernel
theorem dX3_mark_40 : decode cX3_mark 40 = .ok (.ifCond .le 47, 3) := by decide +kernel
theorem dX3_mark_43 : decode cX3_mark 43 = .ok (.aload_n 0, 1) := by decide +kernel
theorem dX3_mark_44 : decode cX3_mark 44 = .ok (.getfield 19, 3) := by decide +kernel
theorem dX3_mark_47 : decode cX3_mark 47 = .ok (.aload_n 0, 1) := by decide +kernel
theorem dX3_mark_48 : decode cX3_mark 48 = .ok (.getfield 23, 3) := by decide +kernel
theorem dX3_mark_51 : decode cX3_mark 51 = .ok (.iconst 1, 1) := by decide +kernel
theorem dX3_mark_52 : decode cX3_mark 52 = .ok (.isub, 1) := by decide +kernel
theorem dX3_mark_53 : decode cX3_mark 53 = .ok (.iaload, 1) := by decide +kernel
theorem dX3_mark_54 : decode cX3_mark 54 = .ok (.istore_n 2, 1) := by decide +kernel
theorem dX3_mark_55 : decode cX3_mark 55 = .ok (.iload_n 1, 1) := by decide +kernel
theorem dX3_mark_56 : decode cX3_mark 56 = .ok (.ifCond .eq 18, 3) := by decide +kernel
theorem dX3_mark_59 : decode cX3_mark 59 = .ok (.aload_n 0, 1) := by decide +kernel
theorem dX3_mark_60 : decode cX3_mark 60 = .ok (.getfield 9, 3) := by decide +kernel
theorem dX3_mark_63 : decode cX3_mark 63 = .ok (.getfield 72, 3) := by decide +kernel
theorem dX3_mark_66 : decode cX3_mark 66 = .ok (.iload_n 2, 1) := by decide +kernel
theorem dX3_mark_67 : decode cX3_mark 67 = .ok (.dup2, 1) := by decide +kernel
theorem dX3_mark_68 : decode cX3_mark 68 = .ok (.laload, 1) := by decide +kernel
theorem dX3_mark_69 : decode cX3_mark 69 = .ok (.ldc2_w 85, 3) := by decide +kernel
theorem dX3_mark_72 : decode cX3_mark 72 = .ok (.lor, 1) := by decide +kernel
theorem dX3_mark_73 : decode cX3_mark 73 = .ok (.lastore, 1) := by decide +kernel
theorem dX3_mark_74 : decode cX3_mark 74 = .ok (.aload_n 0, 1) := by decide +kernel
theorem dX3_mark_75 : decode cX3_mark 75 = .ok (.aload_n 0, 1) := by decide +kernel
theorem dX3_mark_76 : decode cX3_mark 76 = .ok (.getfield 9, 3) := by decide +kernel
theorem dX3_mark_79 : decode cX3_mark 79 = .ok (.getfield 72, 3) := by decide +kernel
theorem dX3_mark_82 : decode cX3_mark 82 = .ok (.iload_n 2, 1) := by decide +kernel
theorem dX3_mark_83 : decode cX3_mark 83 = .ok (.laload, 1) := by decide +kernel
theorem dX3_mark_84 : decode cX3_mark 84 = .ok (.putfield 47, 3) := by decide +kernel
theorem dX3_mark_87 : decode cX3_mark 87 = .ok (.return_, 1) := by decide +kernel
