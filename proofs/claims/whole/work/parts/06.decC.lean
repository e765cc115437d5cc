theorem d_G_init_0 : decode m_G_init.2.1 0 = .ok (.aload_n 0, 1) := by decide +kernel
theorem d_G_init_1 : decode m_G_init.2.1 1 = .ok (.invokespecial 1, 3) := by decide +kernel
theorem d_G_init_4 : decode m_G_init.2.1 4 = .ok (.aload_n 0, 1) := by decide +kernel
theorem d_G_init_5 : decode m_G_init.2.1 5 = .ok (.iload_n 1, 1) := by decide +kernel
theorem d_G_init_6 : decode m_G_init.2.1 6 = .ok (.ifCond .le 7, 3) := by decide +kernel
theorem d_G_init_9 : decode m_G_init.2.1 9 = .ok (.iload_n 1, 1) := by decide +kernel
theorem d_G_init_10 : decode m_G_init.2.1 10 = .ok (.goto 4, 3) := by decide +kernel
theorem d_G_init_13 : decode m_G_init.2.1 13 = .ok (.iconst 0, 1) := by decide +kernel
theorem d_G_init_14 : decode m_G_init.2.1 14 = .ok (.newarray .int, 2) := by decide +kernel
theorem d_G_init_16 : decode m_G_init.2.1 16 = .ok (.putfield 7, 3) := by decide +kernel
theorem d_G_init_19 : decode m_G_init.2.1 19 = .ok (.return_, 1) := by decide +kernel
theorem d_R_init_0 : decode m_R_init.2.1 0 = .ok (.aload_n 0, 1) := by decide +kernel
theorem d_R_init_1 : decode m_R_init.2.1 1 = .ok (.invokespecial 3, 3) := by decide +kernel
theorem d_R_init_4 : decode m_R_init.2.1 4 = .ok (.aload_n 0, 1) := by decide +kernel
theorem d_R_init_5 : decode m_R_init.2.1 5 = .ok (.aload_n 1, 1) := by decide +kernel
theorem d_R_init_6 : decode m_R_init.2.1 6 = .ok (.putfield 9, 3) := by decide +kernel
theorem d_R_init_9 : decode m_R_init.2.1 9 = .ok (.aload_n 0, 1) := by decide +kernel
theorem d_R_init_10 : decode m_R_init.2.1 10 = .ok (.new 15, 3) := by decide +kernel
theorem d_R_init_13 : decode m_R_init.2.1 13 = .ok (.dup, 1) := by decide +kernel
theorem d_R_init_14 : decode m_R_init.2.1 14 = .ok (.invokespecial 17, 3) := by decide +kernel
theorem d_R_init_17 : decode m_R_init.2.1 17 = .ok (.putfield 18, 3) := by decide +kernel
theorem d_R_init_20 : decode m_R_init.2.1 20 = .ok (.return_, 1) := by decide +kernel
theorem d_E_init_0 : decode m_E_init.2.1 0 = .ok (.aload_n 0, 1) := by decide +kernel
theorem d_E_init_1 : decode m_E_init.2.1 1 = .ok (.invokespecial 3, 3) := by decide +kernel
theorem d_E_init_4 : decode m_E_init.2.1 4 = .ok (.aload_n 0, 1) := by decide +kernel
theorem d_E_init_5 : decode m_E_init.2.1 5 = .ok (.bipush 26, 2) := by decide +kernel
theorem d_E_init_7 : decode m_E_init.2.1 7 = .ok (.anewarray 9, 3) := by decide +kernel
theorem d_E_init_10 : decode m_E_init.2.1 10 = .ok (.putfield 11, 3) := by decide +kernel
theorem d_E_init_13 : decode m_E_init.2.1 13 = .ok (.aload_n 0, 1) := by decide +kernel
theorem d_E_init_14 : decode m_E_init.2.1 14 = .ok (.bipush 8, 2) := by decide +kernel
theorem d_E_init_16 : decode m_E_init.2.1 16 = .ok (.newarray .int, 2) := by decide +kernel
theorem d_E_init_18 : decode m_E_init.2.1 18 = .ok (.putfield 17, 3) := by decide +kernel
theorem d_E_init_21 : decode m_E_init.2.1 21 = .ok (.aload_n 0, 1) := by decide +kernel
theorem d_E_init_22 : decode m_E_init.2.1 22 = .ok (.bipush 8, 2) := by decide +kernel
theorem d_E_init_24 : decode m_E_init.2.1 24 = .ok (.newarray .int, 2) := by decide +kernel
theorem d_E_init_26 : decode m_E_init.2.1 26 = .ok (.putfield 21, 3) := by decide +kernel
theorem d_E_init_29 : decode m_E_init.2.1 29 = .ok (.aload_n 0, 1) := by decide +kernel
theorem d_E_init_30 : decode m_E_init.2.1 30 = .ok (.bipush 8, 2) := by decide +kernel
theorem d_E_init_32 : decode m_E_init.2.1 32 = .ok (.newarray .int, 2) := by decide +kernel
theorem d_E_init_34 : decode m_E_init.2.1 34 = .ok (.putfield 24, 3) := by decide +kernel
theorem d_E_init_37 : decode m_E_init.2.1 37 = .ok (.return_, 1) := by decide +kernel
theorem d_K_init_0 : decode m_K_init.2.1 0 = .ok (.aload_n 0, 1) := by decide +kernel
theorem d_K_init_1 : decode m_K_init.2.1 1 = .ok (.invokespecial 3, 3) := by decide +kernel
theorem d_K_init_4 : decode m_K_init.2.1 4 = .ok (.aload_n 0, 1) := by decide +kernel
theorem d_K_init_5 : decode m_K_init.2.1 5 = .ok (.bipush 8, 2) := by decide +kernel
theorem d_K_init_7 : decode m_K_init.2.1 7 = .ok (.newarray .int, 2) := by decide +kernel
theorem d_K_init_9 : decode m_K_init.2.1 9 = .ok (.putfield 9, 3) := by decide +kernel
theorem d_K_init_12 : decode m_K_init.2.1 12 = .ok (.aload_n 0, 1) := by decide +kernel
theorem d_K_init_13 : decode m_K_init.2.1 13 = .ok (.bipush 8, 2) := by decide +kernel
theorem d_K_init_15 : decode m_K_init.2.1 15 = .ok (.newarray .int, 2) := by decide +kernel
theorem d_K_init_17 : decode m_K_init.2.1 17 = .ok (.putfield 15, 3) := by decide +kernel
theorem d_K_init_20 : decode m_K_init.2.1 20 = .ok (.return_, 1) := by decide +kernel
theorem d_K_letterAt_0 : decode m_K_letterAt.2.1 0 = .ok (.iload_n 1, 1) := by decide +kernel
theorem d_K_letterAt_1 : decode m_K_letterAt.2.1 1 = .ok (.ifCond .lt 26, 3) := by decide +kernel
theorem d_K_letterAt_4 : decode m_K_letterAt.2.1 4 = .ok (.iload_n 1, 1) := by decide +kernel
theorem d_K_letterAt_5 : decode m_K_letterAt.2.1 5 = .ok (.aload_n 0, 1) := by decide +kernel
theorem d_K_letterAt_6 : decode m_K_letterAt.2.1 6 = .ok (.getfield 18, 3) := by decide +kernel
theorem d_K_letterAt_9 : decode m_K_letterAt.2.1 9 = .ok (.if_icmp .ge 18, 3) := by decide +kernel
theorem d_K_letterAt_12 : decode m_K_letterAt.2.1 12 = .ok (.iload_n 1, 1) := by decide +kernel
theorem d_K_letterAt_13 : decode m_K_letterAt.2.1 13 = .ok (.bipush 8, 2) := by decide +kernel
theorem d_K_letterAt_15 : decode m_K_letterAt.2.1 15 = .ok (.if_icmp .ge 12, 3) := by decide +kernel
theorem d_K_letterAt_18 : decode m_K_letterAt.2.1 18 = .ok (.aload_n 0, 1) := by decide +kernel
theorem d_K_letterAt_19 : decode m_K_letterAt.2.1 19 = .ok (.getfield 9, 3) := by decide +kernel
theorem d_K_letterAt_22 : decode m_K_letterAt.2.1 22 = .ok (.iload_n 1, 1) := by decide +kernel
theorem d_K_letterAt_23 : decode m_K_letterAt.2.1 23 = .ok (.iaload, 1) := by decide +kernel
theorem d_K_letterAt_24 : decode m_K_letterAt.2.1 24 = .ok (.goto 4, 3) := by decide +kernel
theorem d_K_letterAt_27 : decode m_K_letterAt.2.1 27 = .ok (.iconst (-1), 1) := by decide +kernel
theorem d_K_letterAt_28 : decode m_K_letterAt.2.1 28 = .ok (.ireturn, 1) := by decide +kernel
theorem d_G_append_0 : decode m_G_append.2.1 0 = .ok (.aload_n 0, 1) := by decide +kernel
theorem d_G_append_1 : decode m_G_append.2.1 1 = .ok (.getfield 13, 3) := by decide +kernel
theorem d_G_append_4 : decode m_G_append.2.1 4 = .ok (.ifCond .lt 15, 3) := by decide +kernel
theorem d_G_append_7 : decode m_G_append.2.1 7 = .ok (.aload_n 0, 1) := by decide +kernel
theorem d_G_append_8 : decode m_G_append.2.1 8 = .ok (.getfield 13, 3) := by decide +kernel
theorem d_G_append_11 : decode m_G_append.2.1 11 = .ok (.aload_n 0, 1) := by decide +kernel
theorem d_G_append_12 : decode m_G_append.2.1 12 = .ok (.getfield 7, 3) := by decide +kernel
theorem d_G_append_15 : decode m_G_append.2.1 15 = .ok (.arraylength, 1) := by decide +kernel
theorem d_G_append_16 : decode m_G_append.2.1 16 = .ok (.if_icmp .lt 5, 3) := by decide +kernel
theorem d_G_append_19 : decode m_G_append.2.1 19 = .ok (.iconst 0, 1) := by decide +kernel
theorem d_G_append_20 : decode m_G_append.2.1 20 = .ok (.ireturn, 1) := by decide +kernel
theorem d_G_append_21 : decode m_G_append.2.1 21 = .ok (.aload_n 0, 1) := by decide +kernel
theorem d_G_append_22 : decode m_G_append.2.1 22 = .ok (.getfield 7, 3) := by decide +kernel
theorem d_G_append_25 : decode m_G_append.2.1 25 = .ok (.aload_n 0, 1) := by decide +kernel
theorem d_G_append_26 : decode m_G_append.2.1 26 = .ok (.getfield 13, 3) := by decide +kernel
theorem d_G_append_29 : decode m_G_append.2.1 29 = .ok (.iload_n 1, 1) := by decide +kernel
theorem d_G_append_30 : decode m_G_append.2.1 30 = .ok (.iastore, 1) := by decide +kernel
theorem d_G_append_31 : decode m_G_append.2.1 31 = .ok (.aload_n 0, 1) := by decide +kernel
theorem d_G_append_32 : decode m_G_append.2.1 32 = .ok (.dup, 1) := by decide +kernel
theorem d_G_append_33 : decode m_G_append.2.1 33 = .ok (.getfield 13, 3) := by decide +kernel
theorem d_G_append_36 : decode m_G_append.2.1 36 = .ok (.iconst 1, 1) := by decide +kernel
theorem d_G_append_37 : decode m_G_append.2.1 37 = .ok (.iadd, 1) := by decide +kernel
theorem d_G_append_38 : decode m_G_append.2.1 38 = .ok (.putfield 13, 3) := by decide +kernel
theorem d_G_append_41 : decode m_G_append.2.1 41 = .ok (.iconst 1, 1) := by decide +kernel
theorem d_G_append_42 : decode m_G_append.2.1 42 = .ok (.ireturn, 1) := by decide +kernel
theorem d_R_readsWholeText_0 : decode m_R_readsWholeText.2.1 0 = .ok (.aload_n 0, 1) := by decide +kernel
theorem d_R_readsWholeText_1 : decode m_R_readsWholeText.2.1 1 = .ok (.getfield 18, 3) := by decide +kernel
theorem d_R_readsWholeText_4 : decode m_R_readsWholeText.2.1 4 = .ok (.invokevirtual 22, 3) := by decide +kernel
theorem d_R_readsWholeText_7 : decode m_R_readsWholeText.2.1 7 = .ok (.aload_n 0, 1) := by decide +kernel
theorem d_R_readsWholeText_8 : decode m_R_readsWholeText.2.1 8 = .ok (.iconst 0, 1) := by decide +kernel
theorem d_R_readsWholeText_9 : decode m_R_readsWholeText.2.1 9 = .ok (.putfield 25, 3) := by decide +kernel
theorem d_R_readsWholeText_12 : decode m_R_readsWholeText.2.1 12 = .ok (.aload_n 0, 1) := by decide +kernel
theorem d_R_readsWholeText_13 : decode m_R_readsWholeText.2.1 13 = .ok (.iconst (-1), 1) := by decide +kernel
theorem d_R_readsWholeText_14 : decode m_R_readsWholeText.2.1 14 = .ok (.putfield 29, 3) := by decide +kernel
theorem d_R_readsWholeText_17 : decode m_R_readsWholeText.2.1 17 = .ok (.iconst 0, 1) := by decide +kernel
theorem d_R_readsWholeText_18 : decode m_R_readsWholeText.2.1 18 = .ok (.istore_n 1, 1) := by decide +kernel
theorem d_R_readsWholeText_19 : decode m_R_readsWholeText.2.1 19 = .ok (.iload_n 1, 1) := by decide +kernel
theorem d_R_readsWholeText_20 : decode m_R_readsWholeText.2.1 20 = .ok (.sipush 500, 3) := by decide +kernel
theorem d_R_readsWholeText_23 : decode m_R_readsWholeText.2.1 23 = .ok (.if_icmp .ge 65, 3) := by decide +kernel
theorem d_R_readsWholeText_26 : decode m_R_readsWholeText.2.1 26 = .ok (.aload_n 0, 1) := by decide +kernel
theorem d_R_readsWholeText_27 : decode m_R_readsWholeText.2.1 27 = .ok (.getfield 25, 3) := by decide +kernel
theorem d_R_readsWholeText_30 : decode m_R_readsWholeText.2.1 30 = .ok (.aload_n 0, 1) := by decide +kernel
theorem d_R_readsWholeText_31 : decode m_R_readsWholeText.2.1 31 = .ok (.getfield 9, 3) := by decide +kernel
theorem d_R_readsWholeText_34 : decode m_R_readsWholeText.2.1 34 = .ok (.getfield 32, 3) := by decide +kernel
theorem d_R_readsWholeText_37 : decode m_R_readsWholeText.2.1 37 = .ok (.if_icmp .ge 51, 3) := by decide +kernel
theorem d_R_readsWholeText_40 : decode m_R_readsWholeText.2.1 40 = .ok (.aload_n 0, 1) := by decide +kernel
theorem d_R_readsWholeText_41 : decode m_R_readsWholeText.2.1 41 = .ok (.invokevirtual 37, 3) := by decide +kernel
theorem d_R_readsWholeText_44 : decode m_R_readsWholeText.2.1 44 = .ok (.istore_n 2, 1) := by decide +kernel
theorem d_R_readsWholeText_45 : decode m_R_readsWholeText.2.1 45 = .ok (.iload_n 2, 1) := by decide +kernel
theorem d_R_readsWholeText_46 : decode m_R_readsWholeText.2.1 46 = .ok (.bipush 47, 2) := by decide +kernel
theorem d_R_readsWholeText_48 : decode m_R_readsWholeText.2.1 48 = .ok (.if_icmp .ne 10, 3) := by decide +kernel
theorem d_R_readsWholeText_51 : decode m_R_readsWholeText.2.1 51 = .ok (.aload_n 0, 1) := by decide +kernel
theorem d_R_readsWholeText_52 : decode m_R_readsWholeText.2.1 52 = .ok (.invokevirtual 41, 3) := by decide +kernel
theorem d_R_readsWholeText_55 : decode m_R_readsWholeText.2.1 55 = .ok (.goto 20, 3) := by decide +kernel
theorem d_R_readsWholeText_58 : decode m_R_readsWholeText.2.1 58 = .ok (.iload_n 2, 1) := by decide +kernel
theorem d_R_readsWholeText_59 : decode m_R_readsWholeText.2.1 59 = .ok (.bipush 42, 2) := by decide +kernel
theorem d_R_readsWholeText_61 : decode m_R_readsWholeText.2.1 61 = .ok (.if_icmp .ne 10, 3) := by decide +kernel
theorem d_R_readsWholeText_64 : decode m_R_readsWholeText.2.1 64 = .ok (.aload_n 0, 1) := by decide +kernel
theorem d_R_readsWholeText_65 : decode m_R_readsWholeText.2.1 65 = .ok (.invokevirtual 45, 3) := by decide +kernel
theorem d_R_readsWholeText_68 : decode m_R_readsWholeText.2.1 68 = .ok (.goto 7, 3) := by decide +kernel
theorem d_R_readsWholeText_71 : decode m_R_readsWholeText.2.1 71 = .ok (.aload_n 0, 1) := by decide +kernel
theorem d_R_readsWholeText_72 : decode m_R_readsWholeText.2.1 72 = .ok (.invokevirtual 48, 3) := by decide +kernel
theorem d_R_readsWholeText_75 : decode m_R_readsWholeText.2.1 75 = .ok (.istore_n 3, 1) := by decide +kernel
theorem d_R_readsWholeText_76 : decode m_R_readsWholeText.2.1 76 = .ok (.iload_n 3, 1) := by decide +kernel
theorem d_R_readsWholeText_77 : decode m_R_readsWholeText.2.1 77 = .ok (.ifCond .ne 5, 3) := by decide +kernel
theorem d_R_readsWholeText_80 : decode m_R_readsWholeText.2.1 80 = .ok (.iconst 0, 1) := by decide +kernel
theorem d_R_readsWholeText_81 : decode m_R_readsWholeText.2.1 81 = .ok (.ireturn, 1) := by decide +kernel
theorem d_R_readsWholeText_82 : decode m_R_readsWholeText.2.1 82 = .ok (.iinc 1 1, 3) := by decide +kernel
theorem d_R_readsWholeText_85 : decode m_R_readsWholeText.2.1 85 = .ok (.goto (-66), 3) := by decide +kernel
theorem d_R_readsWholeText_88 : decode m_R_readsWholeText.2.1 88 = .ok (.iconst 1, 1) := by decide +kernel
theorem d_R_readsWholeText_89 : decode m_R_readsWholeText.2.1 89 = .ok (.ireturn, 1) := by decide +kernel
theorem d_E_clear_0 : decode m_E_clear.2.1 0 = .ok (.aload_n 0, 1) := by decide +kernel
theorem d_E_clear_1 : decode m_E_clear.2.1 1 = .ok (.iconst 0, 1) := by decide +kernel
theorem d_E_clear_2 : decode m_E_clear.2.1 2 = .ok (.putfield 27, 3) := by decide +kernel
theorem d_E_clear_5 : decode m_E_clear.2.1 5 = .ok (.aload_n 0, 1) := by decide +kernel
theorem d_E_clear_6 : decode m_E_clear.2.1 6 = .ok (.iconst 0, 1) := by decide +kernel
theorem d_E_clear_7 : decode m_E_clear.2.1 7 = .ok (.putfield 31, 3) := by decide +kernel
theorem d_E_clear_10 : decode m_E_clear.2.1 10 = .ok (.return_, 1) := by decide +kernel
theorem d_R_here_0 : decode m_R_here.2.1 0 = .ok (.aload_n 0, 1) := by decide +kernel
theorem d_R_here_1 : decode m_R_here.2.1 1 = .ok (.getfield 9, 3) := by decide +kernel
theorem d_R_here_4 : decode m_R_here.2.1 4 = .ok (.aload_n 0, 1) := by decide +kernel
theorem d_R_here_5 : decode m_R_here.2.1 5 = .ok (.getfield 25, 3) := by decide +kernel
theorem d_R_here_8 : decode m_R_here.2.1 8 = .ok (.invokevirtual 120, 3) := by decide +kernel
theorem d_R_here_11 : decode m_R_here.2.1 11 = .ok (.ireturn, 1) := by decide +kernel
theorem d_G_signAt_0 : decode m_G_signAt.2.1 0 = .ok (.iload_n 1, 1) := by decide +kernel
theorem d_G_signAt_1 : decode m_G_signAt.2.1 1 = .ok (.ifCond .lt 29, 3) := by decide +kernel
theorem d_G_signAt_4 : decode m_G_signAt.2.1 4 = .ok (.iload_n 1, 1) := by decide +kernel
theorem d_G_signAt_5 : decode m_G_signAt.2.1 5 = .ok (.aload_n 0, 1) := by decide +kernel
theorem d_G_signAt_6 : decode m_G_signAt.2.1 6 = .ok (.getfield 13, 3) := by decide +kernel
theorem d_G_signAt_9 : decode m_G_signAt.2.1 9 = .ok (.if_icmp .ge 21, 3) := by decide +kernel
theorem d_G_signAt_12 : decode m_G_signAt.2.1 12 = .ok (.iload_n 1, 1) := by decide +kernel
theorem d_G_signAt_13 : decode m_G_signAt.2.1 13 = .ok (.aload_n 0, 1) := by decide +kernel
theorem d_G_signAt_14 : decode m_G_signAt.2.1 14 = .ok (.getfield 7, 3) := by decide +kernel
theorem d_G_signAt_17 : decode m_G_signAt.2.1 17 = .ok (.arraylength, 1) := by decide +kernel
theorem d_G_signAt_18 : decode m_G_signAt.2.1 18 = .ok (.if_icmp .ge 12, 3) := by decide +kernel
theorem d_G_signAt_21 : decode m_G_signAt.2.1 21 = .ok (.aload_n 0, 1) := by decide +kernel
theorem d_G_signAt_22 : decode m_G_signAt.2.1 22 = .ok (.getfield 7, 3) := by decide +kernel
theorem d_G_signAt_25 : decode m_G_signAt.2.1 25 = .ok (.iload_n 1, 1) := by decide +kernel
theorem d_G_signAt_26 : decode m_G_signAt.2.1 26 = .ok (.iaload, 1) := by decide +kernel
theorem d_G_signAt_27 : decode m_G_signAt.2.1 27 = .ok (.goto 4, 3) := by decide +kernel
theorem d_G_signAt_30 : decode m_G_signAt.2.1 30 = .ok (.iconst (-1), 1) := by decide +kernel
theorem d_G_signAt_31 : decode m_G_signAt.2.1 31 = .ok (.ireturn, 1) := by decide +kernel
theorem d_R_readsRange_0 : decode m_R_readsRange.2.1 0 = .ok (.aload_n 0, 1) := by decide +kernel
theorem d_R_readsRange_1 : decode m_R_readsRange.2.1 1 = .ok (.dup, 1) := by decide +kernel
theorem d_R_readsRange_2 : decode m_R_readsRange.2.1 2 = .ok (.getfield 25, 3) := by decide +kernel
theorem d_R_readsRange_5 : decode m_R_readsRange.2.1 5 = .ok (.iconst 1, 1) := by decide +kernel
theorem d_R_readsRange_6 : decode m_R_readsRange.2.1 6 = .ok (.iadd, 1) := by decide +kernel
theorem d_R_readsRange_7 : decode m_R_readsRange.2.1 7 = .ok (.putfield 25, 3) := by decide +kernel
theorem d_R_readsRange_10 : decode m_R_readsRange.2.1 10 = .ok (.aload_n 0, 1) := by decide +kernel
theorem d_R_readsRange_11 : decode m_R_readsRange.2.1 11 = .ok (.iconst 4, 1) := by decide +kernel
theorem d_R_readsRange_12 : decode m_R_readsRange.2.1 12 = .ok (.aload_n 0, 1) := by decide +kernel
theorem d_R_readsRange_13 : decode m_R_readsRange.2.1 13 = .ok (.getfield 29, 3) := by decide +kernel
theorem d_R_readsRange_16 : decode m_R_readsRange.2.1 16 = .ok (.iconst 1, 1) := by decide +kernel
theorem d_R_readsRange_17 : decode m_R_readsRange.2.1 17 = .ok (.iadd, 1) := by decide +kernel
theorem d_R_readsRange_18 : decode m_R_readsRange.2.1 18 = .ok (.sipush 9999, 3) := by decide +kernel
theorem d_R_readsRange_21 : decode m_R_readsRange.2.1 21 = .ok (.invokevirtual 103, 3) := by decide +kernel
theorem d_R_readsRange_24 : decode m_R_readsRange.2.1 24 = .ok (.istore_n 1, 1) := by decide +kernel
theorem d_R_readsRange_25 : decode m_R_readsRange.2.1 25 = .ok (.iload_n 1, 1) := by decide +kernel
theorem d_R_readsRange_26 : decode m_R_readsRange.2.1 26 = .ok (.iconst (-1), 1) := by decide +kernel
theorem d_R_readsRange_27 : decode m_R_readsRange.2.1 27 = .ok (.if_icmp .eq 12, 3) := by decide +kernel
theorem d_R_readsRange_30 : decode m_R_readsRange.2.1 30 = .ok (.aload_n 0, 1) := by decide +kernel
theorem d_R_readsRange_31 : decode m_R_readsRange.2.1 31 = .ok (.bipush 45, 2) := by decide +kernel
theorem d_R_readsRange_33 : decode m_R_readsRange.2.1 33 = .ok (.invokevirtual 64, 3) := by decide +kernel
theorem d_R_readsRange_36 : decode m_R_readsRange.2.1 36 = .ok (.ifCond .ne 5, 3) := by decide +kernel
theorem d_R_readsRange_39 : decode m_R_readsRange.2.1 39 = .ok (.iconst 0, 1) := by decide +kernel
theorem d_R_readsRange_40 : decode m_R_readsRange.2.1 40 = .ok (.ireturn, 1) := by decide +kernel
theorem d_R_readsRange_41 : decode m_R_readsRange.2.1 41 = .ok (.aload_n 0, 1) := by decide +kernel
theorem d_R_readsRange_42 : decode m_R_readsRange.2.1 42 = .ok (.iconst 4, 1) := by decide +kernel
theorem d_R_readsRange_43 : decode m_R_readsRange.2.1 43 = .ok (.iload_n 1, 1) := by decide +kernel
theorem d_R_readsRange_44 : decode m_R_readsRange.2.1 44 = .ok (.sipush 9999, 3) := by decide +kernel
theorem d_R_readsRange_47 : decode m_R_readsRange.2.1 47 = .ok (.invokevirtual 103, 3) := by decide +kernel
theorem d_R_readsRange_50 : decode m_R_readsRange.2.1 50 = .ok (.istore_n 2, 1) := by decide +kernel
theorem d_R_readsRange_51 : decode m_R_readsRange.2.1 51 = .ok (.iload_n 2, 1) := by decide +kernel
theorem d_R_readsRange_52 : decode m_R_readsRange.2.1 52 = .ok (.iconst (-1), 1) := by decide +kernel
theorem d_R_readsRange_53 : decode m_R_readsRange.2.1 53 = .ok (.if_icmp .eq 12, 3) := by decide +kernel
theorem d_R_readsRange_56 : decode m_R_readsRange.2.1 56 = .ok (.aload_n 0, 1) := by decide +kernel
theorem d_R_readsRange_57 : decode m_R_readsRange.2.1 57 = .ok (.bipush 58, 2) := by decide +kernel
theorem d_R_readsRange_59 : decode m_R_readsRange.2.1 59 = .ok (.invokevirtual 64, 3) := by decide +kernel
theorem d_R_readsRange_62 : decode m_R_readsRange.2.1 62 = .ok (.ifCond .ne 5, 3) := by decide +kernel
theorem d_R_readsRange_65 : decode m_R_readsRange.2.1 65 = .ok (.iconst 0, 1) := by decide +kernel
theorem d_R_readsRange_66 : decode m_R_readsRange.2.1 66 = .ok (.ireturn, 1) := by decide +kernel
theorem d_R_readsRange_67 : decode m_R_readsRange.2.1 67 = .ok (.aload_n 0, 1) := by decide +kernel
theorem d_R_readsRange_68 : decode m_R_readsRange.2.1 68 = .ok (.iconst 1, 1) := by decide +kernel
theorem d_R_readsRange_69 : decode m_R_readsRange.2.1 69 = .ok (.iconst 1, 1) := by decide +kernel
theorem d_R_readsRange_70 : decode m_R_readsRange.2.1 70 = .ok (.bipush 9, 2) := by decide +kernel
theorem d_R_readsRange_72 : decode m_R_readsRange.2.1 72 = .ok (.invokevirtual 103, 3) := by decide +kernel
theorem d_R_readsRange_75 : decode m_R_readsRange.2.1 75 = .ok (.istore_n 3, 1) := by decide +kernel
theorem d_R_readsRange_76 : decode m_R_readsRange.2.1 76 = .ok (.iload_n 3, 1) := by decide +kernel
theorem d_R_readsRange_77 : decode m_R_readsRange.2.1 77 = .ok (.iconst (-1), 1) := by decide +kernel
theorem d_R_readsRange_78 : decode m_R_readsRange.2.1 78 = .ok (.if_icmp .eq 12, 3) := by decide +kernel
theorem d_R_readsRange_81 : decode m_R_readsRange.2.1 81 = .ok (.aload_n 0, 1) := by decide +kernel
theorem d_R_readsRange_82 : decode m_R_readsRange.2.1 82 = .ok (.bipush 10, 2) := by decide +kernel
theorem d_R_readsRange_84 : decode m_R_readsRange.2.1 84 = .ok (.invokevirtual 64, 3) := by decide +kernel
theorem d_R_readsRange_87 : decode m_R_readsRange.2.1 87 = .ok (.ifCond .ne 5, 3) := by decide +kernel
theorem d_R_readsRange_90 : decode m_R_readsRange.2.1 90 = .ok (.iconst 0, 1) := by decide +kernel
theorem d_R_readsRange_91 : decode m_R_readsRange.2.1 91 = .ok (.ireturn, 1) := by decide +kernel
theorem d_R_readsRange_92 : decode m_R_readsRange.2.1 92 = .ok (.aload_n 0, 1) := by decide +kernel
theorem d_R_readsRange_93 : decode m_R_readsRange.2.1 93 = .ok (.iload_n 2, 1) := by decide +kernel
theorem d_R_readsRange_94 : decode m_R_readsRange.2.1 94 = .ok (.putfield 29, 3) := by decide +kernel
theorem d_R_readsRange_97 : decode m_R_readsRange.2.1 97 = .ok (.aload_n 0, 1) := by decide +kernel
theorem d_R_readsRange_98 : decode m_R_readsRange.2.1 98 = .ok (.getfield 18, 3) := by decide +kernel
theorem d_R_readsRange_101 : decode m_R_readsRange.2.1 101 = .ok (.iload_n 1, 1) := by decide +kernel
theorem d_R_readsRange_102 : decode m_R_readsRange.2.1 102 = .ok (.iload_n 2, 1) := by decide +kernel
theorem d_R_readsRange_103 : decode m_R_readsRange.2.1 103 = .ok (.iload_n 3, 1) := by decide +kernel
theorem d_R_readsRange_104 : decode m_R_readsRange.2.1 104 = .ok (.invokevirtual 107, 3) := by decide +kernel
theorem d_R_readsRange_107 : decode m_R_readsRange.2.1 107 = .ok (.iconst 1, 1) := by decide +kernel
theorem d_R_readsRange_108 : decode m_R_readsRange.2.1 108 = .ok (.ireturn, 1) := by decide +kernel
theorem d_R_countedNumber_0 : decode m_R_countedNumber.2.1 0 = .ok (.aload_n 0, 1) := by decide +kernel
theorem d_R_countedNumber_1 : decode m_R_countedNumber.2.1 1 = .ok (.getfield 25, 3) := by decide +kernel
theorem d_R_countedNumber_4 : decode m_R_countedNumber.2.1 4 = .ok (.istore 4, 2) := by decide +kernel
theorem d_R_countedNumber_6 : decode m_R_countedNumber.2.1 6 = .ok (.iconst 0, 1) := by decide +kernel
theorem d_R_countedNumber_7 : decode m_R_countedNumber.2.1 7 = .ok (.istore 5, 2) := by decide +kernel
theorem d_R_countedNumber_9 : decode m_R_countedNumber.2.1 9 = .ok (.iconst 0, 1) := by decide +kernel
theorem d_R_countedNumber_10 : decode m_R_countedNumber.2.1 10 = .ok (.istore 6, 2) := by decide +kernel
theorem d_R_countedNumber_12 : decode m_R_countedNumber.2.1 12 = .ok (.iload 6, 2) := by decide +kernel
theorem d_R_countedNumber_14 : decode m_R_countedNumber.2.1 14 = .ok (.iload_n 1, 1) := by decide +kernel
theorem d_R_countedNumber_15 : decode m_R_countedNumber.2.1 15 = .ok (.if_icmp .ge 46, 3) := by decide +kernel
theorem d_R_countedNumber_18 : decode m_R_countedNumber.2.1 18 = .ok (.aload_n 0, 1) := by decide +kernel
theorem d_R_countedNumber_19 : decode m_R_countedNumber.2.1 19 = .ok (.invokevirtual 37, 3) := by decide +kernel
theorem d_R_countedNumber_22 : decode m_R_countedNumber.2.1 22 = .ok (.invokestatic 128, 3) := by decide +kernel
theorem d_R_countedNumber_25 : decode m_R_countedNumber.2.1 25 = .ok (.ifCond .ne 5, 3) := by decide +kernel
theorem d_R_countedNumber_28 : decode m_R_countedNumber.2.1 28 = .ok (.iconst (-1), 1) := by decide +kernel
theorem d_R_countedNumber_29 : decode m_R_countedNumber.2.1 29 = .ok (.ireturn, 1) := by decide +kernel
theorem d_R_countedNumber_30 : decode m_R_countedNumber.2.1 30 = .ok (.iload 5, 2) := by decide +kernel
theorem d_R_countedNumber_32 : decode m_R_countedNumber.2.1 32 = .ok (.bipush 10, 2) := by decide +kernel
theorem d_R_countedNumber_34 : decode m_R_countedNumber.2.1 34 = .ok (.imul, 1) := by decide +kernel
theorem d_R_countedNumber_35 : decode m_R_countedNumber.2.1 35 = .ok (.aload_n 0, 1) := by decide +kernel
theorem d_R_countedNumber_36 : decode m_R_countedNumber.2.1 36 = .ok (.invokevirtual 37, 3) := by decide +kernel
theorem d_R_countedNumber_39 : decode m_R_countedNumber.2.1 39 = .ok (.iadd, 1) := by decide +kernel
theorem d_R_countedNumber_40 : decode m_R_countedNumber.2.1 40 = .ok (.bipush 48, 2) := by decide +kernel
theorem d_R_countedNumber_42 : decode m_R_countedNumber.2.1 42 = .ok (.isub, 1) := by decide +kernel
theorem d_R_countedNumber_43 : decode m_R_countedNumber.2.1 43 = .ok (.istore 5, 2) := by decide +kernel
theorem d_R_countedNumber_45 : decode m_R_countedNumber.2.1 45 = .ok (.aload_n 0, 1) := by decide +kernel
theorem d_R_countedNumber_46 : decode m_R_countedNumber.2.1 46 = .ok (.dup, 1) := by decide +kernel
theorem d_R_countedNumber_47 : decode m_R_countedNumber.2.1 47 = .ok (.getfield 25, 3) := by decide +kernel
theorem d_R_countedNumber_50 : decode m_R_countedNumber.2.1 50 = .ok (.iconst 1, 1) := by decide +kernel
theorem d_R_countedNumber_51 : decode m_R_countedNumber.2.1 51 = .ok (.iadd, 1) := by decide +kernel
theorem d_R_countedNumber_52 : decode m_R_countedNumber.2.1 52 = .ok (.putfield 25, 3) := by decide +kernel
theorem d_R_countedNumber_55 : decode m_R_countedNumber.2.1 55 = .ok (.iinc 6 1, 3) := by decide +kernel
theorem d_R_countedNumber_58 : decode m_R_countedNumber.2.1 58 = .ok (.goto (-46), 3) := by decide +kernel
theorem d_R_countedNumber_61 : decode m_R_countedNumber.2.1 61 = .ok (.aload_n 0, 1) := by decide +kernel
theorem d_R_countedNumber_62 : decode m_R_countedNumber.2.1 62 = .ok (.iload 5, 2) := by decide +kernel
theorem d_R_countedNumber_64 : decode m_R_countedNumber.2.1 64 = .ok (.iload 4, 2) := by decide +kernel
theorem d_R_countedNumber_66 : decode m_R_countedNumber.2.1 66 = .ok (.iload_n 2, 1) := by decide +kernel
theorem d_R_countedNumber_67 : decode m_R_countedNumber.2.1 67 = .ok (.iload_n 3, 1) := by decide +kernel
theorem d_R_countedNumber_68 : decode m_R_countedNumber.2.1 68 = .ok (.invokevirtual 131, 3) := by decide +kernel
theorem d_R_countedNumber_71 : decode m_R_countedNumber.2.1 71 = .ok (.ireturn, 1) := by decide +kernel
theorem d_R_numberInRange_0 : decode m_R_numberInRange.2.1 0 = .ok (.iload_n 1, 1) := by decide +kernel
theorem d_R_numberInRange_1 : decode m_R_numberInRange.2.1 1 = .ok (.iload_n 3, 1) := by decide +kernel
theorem d_R_numberInRange_2 : decode m_R_numberInRange.2.1 2 = .ok (.iload 4, 2) := by decide +kernel
theorem d_R_numberInRange_4 : decode m_R_numberInRange.2.1 4 = .ok (.invokestatic 124, 3) := by decide +kernel
theorem d_R_numberInRange_7 : decode m_R_numberInRange.2.1 7 = .ok (.ifCond .eq 5, 3) := by decide +kernel
theorem d_R_numberInRange_10 : decode m_R_numberInRange.2.1 10 = .ok (.iload_n 1, 1) := by decide +kernel
theorem d_R_numberInRange_11 : decode m_R_numberInRange.2.1 11 = .ok (.ireturn, 1) := by decide +kernel
theorem d_R_numberInRange_12 : decode m_R_numberInRange.2.1 12 = .ok (.aload_n 0, 1) := by decide +kernel
theorem d_R_numberInRange_13 : decode m_R_numberInRange.2.1 13 = .ok (.iload_n 2, 1) := by decide +kernel
theorem d_R_numberInRange_14 : decode m_R_numberInRange.2.1 14 = .ok (.putfield 25, 3) := by decide +kernel
theorem d_R_numberInRange_17 : decode m_R_numberInRange.2.1 17 = .ok (.iconst (-1), 1) := by decide +kernel
theorem d_R_numberInRange_18 : decode m_R_numberInRange.2.1 18 = .ok (.ireturn, 1) := by decide +kernel
theorem d_R_passes_0 : decode m_R_passes.2.1 0 = .ok (.aload_n 0, 1) := by decide +kernel
theorem d_R_passes_1 : decode m_R_passes.2.1 1 = .ok (.invokevirtual 37, 3) := by decide +kernel
theorem d_R_passes_4 : decode m_R_passes.2.1 4 = .ok (.iload_n 1, 1) := by decide +kernel
theorem d_R_passes_5 : decode m_R_passes.2.1 5 = .ok (.if_icmp .eq 5, 3) := by decide +kernel
theorem d_R_passes_8 : decode m_R_passes.2.1 8 = .ok (.iconst 0, 1) := by decide +kernel
theorem d_R_passes_9 : decode m_R_passes.2.1 9 = .ok (.ireturn, 1) := by decide +kernel
theorem d_R_passes_10 : decode m_R_passes.2.1 10 = .ok (.aload_n 0, 1) := by decide +kernel
theorem d_R_passes_11 : decode m_R_passes.2.1 11 = .ok (.dup, 1) := by decide +kernel
theorem d_R_passes_12 : decode m_R_passes.2.1 12 = .ok (.getfield 25, 3) := by decide +kernel
theorem d_R_passes_15 : decode m_R_passes.2.1 15 = .ok (.iconst 1, 1) := by decide +kernel
theorem d_R_passes_16 : decode m_R_passes.2.1 16 = .ok (.iadd, 1) := by decide +kernel
theorem d_R_passes_17 : decode m_R_passes.2.1 17 = .ok (.putfield 25, 3) := by decide +kernel
theorem d_R_passes_20 : decode m_R_passes.2.1 20 = .ok (.iconst 1, 1) := by decide +kernel
theorem d_R_passes_21 : decode m_R_passes.2.1 21 = .ok (.ireturn, 1) := by decide +kernel
theorem d_E_addRange_0 : decode m_E_addRange.2.1 0 = .ok (.aload_n 0, 1) := by decide +kernel
theorem d_E_addRange_1 : decode m_E_addRange.2.1 1 = .ok (.getfield 31, 3) := by decide +kernel
theorem d_E_addRange_4 : decode m_E_addRange.2.1 4 = .ok (.ifCond .lt 42, 3) := by decide +kernel
theorem d_E_addRange_7 : decode m_E_addRange.2.1 7 = .ok (.aload_n 0, 1) := by decide +kernel
theorem d_E_addRange_8 : decode m_E_addRange.2.1 8 = .ok (.getfield 31, 3) := by decide +kernel
theorem d_E_addRange_11 : decode m_E_addRange.2.1 11 = .ok (.bipush 8, 2) := by decide +kernel
theorem d_E_addRange_13 : decode m_E_addRange.2.1 13 = .ok (.if_icmp .ge 33, 3) := by decide +kernel
theorem d_E_addRange_16 : decode m_E_addRange.2.1 16 = .ok (.aload_n 0, 1) := by decide +kernel
theorem d_E_addRange_17 : decode m_E_addRange.2.1 17 = .ok (.getfield 17, 3) := by decide +kernel
theorem d_E_addRange_20 : decode m_E_addRange.2.1 20 = .ok (.aload_n 0, 1) := by decide +kernel
theorem d_E_addRange_21 : decode m_E_addRange.2.1 21 = .ok (.getfield 31, 3) := by decide +kernel
theorem d_E_addRange_24 : decode m_E_addRange.2.1 24 = .ok (.iload_n 1, 1) := by decide +kernel
theorem d_E_addRange_25 : decode m_E_addRange.2.1 25 = .ok (.iastore, 1) := by decide +kernel
theorem d_E_addRange_26 : decode m_E_addRange.2.1 26 = .ok (.aload_n 0, 1) := by decide +kernel
theorem d_E_addRange_27 : decode m_E_addRange.2.1 27 = .ok (.getfield 21, 3) := by decide +kernel
theorem d_E_addRange_30 : decode m_E_addRange.2.1 30 = .ok (.aload_n 0, 1) := by decide +kernel
theorem d_E_addRange_31 : decode m_E_addRange.2.1 31 = .ok (.getfield 31, 3) := by decide +kernel
theorem d_E_addRange_34 : decode m_E_addRange.2.1 34 = .ok (.iload_n 2, 1) := by decide +kernel
theorem d_E_addRange_35 : decode m_E_addRange.2.1 35 = .ok (.iastore, 1) := by decide +kernel
theorem d_E_addRange_36 : decode m_E_addRange.2.1 36 = .ok (.aload_n 0, 1) := by decide +kernel
theorem d_E_addRange_37 : decode m_E_addRange.2.1 37 = .ok (.getfield 24, 3) := by decide +kernel
theorem d_E_addRange_40 : decode m_E_addRange.2.1 40 = .ok (.aload_n 0, 1) := by decide +kernel
theorem d_E_addRange_41 : decode m_E_addRange.2.1 41 = .ok (.getfield 31, 3) := by decide +kernel
theorem d_E_addRange_44 : decode m_E_addRange.2.1 44 = .ok (.iload_n 3, 1) := by decide +kernel
theorem d_E_addRange_45 : decode m_E_addRange.2.1 45 = .ok (.iastore, 1) := by decide +kernel
theorem d_E_addRange_46 : decode m_E_addRange.2.1 46 = .ok (.aload_n 0, 1) := by decide +kernel
theorem d_E_addRange_47 : decode m_E_addRange.2.1 47 = .ok (.dup, 1) := by decide +kernel
theorem d_E_addRange_48 : decode m_E_addRange.2.1 48 = .ok (.getfield 31, 3) := by decide +kernel
theorem d_E_addRange_51 : decode m_E_addRange.2.1 51 = .ok (.iconst 1, 1) := by decide +kernel
theorem d_E_addRange_52 : decode m_E_addRange.2.1 52 = .ok (.iadd, 1) := by decide +kernel
theorem d_E_addRange_53 : decode m_E_addRange.2.1 53 = .ok (.putfield 31, 3) := by decide +kernel
theorem d_E_addRange_56 : decode m_E_addRange.2.1 56 = .ok (.return_, 1) := by decide +kernel
theorem d_R_readsHours_0 : decode m_R_readsHours.2.1 0 = .ok (.aload_n 0, 1) := by decide +kernel
theorem d_R_readsHours_1 : decode m_R_readsHours.2.1 1 = .ok (.dup, 1) := by decide +kernel
theorem d_R_readsHours_2 : decode m_R_readsHours.2.1 2 = .ok (.getfield 25, 3) := by decide +kernel
theorem d_R_readsHours_5 : decode m_R_readsHours.2.1 5 = .ok (.iconst 1, 1) := by decide +kernel
theorem d_R_readsHours_6 : decode m_R_readsHours.2.1 6 = .ok (.iadd, 1) := by decide +kernel
theorem d_R_readsHours_7 : decode m_R_readsHours.2.1 7 = .ok (.putfield 25, 3) := by decide +kernel
theorem d_R_readsHours_10 : decode m_R_readsHours.2.1 10 = .ok (.aload_n 0, 1) := by decide +kernel
theorem d_R_readsHours_11 : decode m_R_readsHours.2.1 11 = .ok (.getfield 18, 3) := by decide +kernel
theorem d_R_readsHours_14 : decode m_R_readsHours.2.1 14 = .ok (.aload_n 0, 1) := by decide +kernel
theorem d_R_readsHours_15 : decode m_R_readsHours.2.1 15 = .ok (.invokevirtual 37, 3) := by decide +kernel
theorem d_R_readsHours_18 : decode m_R_readsHours.2.1 18 = .ok (.invokevirtual 55, 3) := by decide +kernel
theorem d_R_readsHours_21 : decode m_R_readsHours.2.1 21 = .ok (.astore_n 1, 1) := by decide +kernel
theorem d_R_readsHours_22 : decode m_R_readsHours.2.1 22 = .ok (.aload_n 1, 1) := by decide +kernel
theorem d_R_readsHours_23 : decode m_R_readsHours.2.1 23 = .ok (.ifnull 10, 3) := by decide +kernel
theorem d_R_readsHours_26 : decode m_R_readsHours.2.1 26 = .ok (.aload_n 1, 1) := by decide +kernel
theorem d_R_readsHours_27 : decode m_R_readsHours.2.1 27 = .ok (.invokevirtual 111, 3) := by decide +kernel
theorem d_R_readsHours_30 : decode m_R_readsHours.2.1 30 = .ok (.ifCond .eq 5, 3) := by decide +kernel
theorem d_R_readsHours_33 : decode m_R_readsHours.2.1 33 = .ok (.iconst 0, 1) := by decide +kernel
theorem d_R_readsHours_34 : decode m_R_readsHours.2.1 34 = .ok (.ireturn, 1) := by decide +kernel
theorem d_R_readsHours_35 : decode m_R_readsHours.2.1 35 = .ok (.aload_n 0, 1) := by decide +kernel
theorem d_R_readsHours_36 : decode m_R_readsHours.2.1 36 = .ok (.dup, 1) := by decide +kernel
theorem d_R_readsHours_37 : decode m_R_readsHours.2.1 37 = .ok (.getfield 25, 3) := by decide +kernel
theorem d_R_readsHours_40 : decode m_R_readsHours.2.1 40 = .ok (.iconst 1, 1) := by decide +kernel
theorem d_R_readsHours_41 : decode m_R_readsHours.2.1 41 = .ok (.iadd, 1) := by decide +kernel
theorem d_R_readsHours_42 : decode m_R_readsHours.2.1 42 = .ok (.putfield 25, 3) := by decide +kernel
theorem d_R_readsHours_45 : decode m_R_readsHours.2.1 45 = .ok (.aload_n 0, 1) := by decide +kernel
theorem d_R_readsHours_46 : decode m_R_readsHours.2.1 46 = .ok (.bipush 58, 2) := by decide +kernel
theorem d_R_readsHours_48 : decode m_R_readsHours.2.1 48 = .ok (.invokevirtual 64, 3) := by decide +kernel
theorem d_R_readsHours_51 : decode m_R_readsHours.2.1 51 = .ok (.ifCond .ne 5, 3) := by decide +kernel
theorem d_R_readsHours_54 : decode m_R_readsHours.2.1 54 = .ok (.iconst 0, 1) := by decide +kernel
theorem d_R_readsHours_55 : decode m_R_readsHours.2.1 55 = .ok (.ireturn, 1) := by decide +kernel
theorem d_R_readsHours_56 : decode m_R_readsHours.2.1 56 = .ok (.aload_n 0, 1) := by decide +kernel
theorem d_R_readsHours_57 : decode m_R_readsHours.2.1 57 = .ok (.iconst 2, 1) := by decide +kernel
theorem d_R_readsHours_58 : decode m_R_readsHours.2.1 58 = .ok (.iconst 0, 1) := by decide +kernel
theorem d_R_readsHours_59 : decode m_R_readsHours.2.1 59 = .ok (.bipush 23, 2) := by decide +kernel
theorem d_R_readsHours_61 : decode m_R_readsHours.2.1 61 = .ok (.invokevirtual 103, 3) := by decide +kernel
theorem d_R_readsHours_64 : decode m_R_readsHours.2.1 64 = .ok (.istore_n 2, 1) := by decide +kernel
theorem d_R_readsHours_65 : decode m_R_readsHours.2.1 65 = .ok (.iload_n 2, 1) := by decide +kernel
theorem d_R_readsHours_66 : decode m_R_readsHours.2.1 66 = .ok (.iconst (-1), 1) := by decide +kernel
theorem d_R_readsHours_67 : decode m_R_readsHours.2.1 67 = .ok (.if_icmp .eq 12, 3) := by decide +kernel
theorem d_R_readsHours_70 : decode m_R_readsHours.2.1 70 = .ok (.aload_n 0, 1) := by decide +kernel
theorem d_R_readsHours_71 : decode m_R_readsHours.2.1 71 = .ok (.bipush 45, 2) := by decide +kernel
theorem d_R_readsHours_73 : decode m_R_readsHours.2.1 73 = .ok (.invokevirtual 64, 3) := by decide +kernel
theorem d_R_readsHours_76 : decode m_R_readsHours.2.1 76 = .ok (.ifCond .ne 5, 3) := by decide +kernel
theorem d_R_readsHours_79 : decode m_R_readsHours.2.1 79 = .ok (.iconst 0, 1) := by decide +kernel
theorem d_R_readsHours_80 : decode m_R_readsHours.2.1 80 = .ok (.ireturn, 1) := by decide +kernel
theorem d_R_readsHours_81 : decode m_R_readsHours.2.1 81 = .ok (.aload_n 0, 1) := by decide +kernel
theorem d_R_readsHours_82 : decode m_R_readsHours.2.1 82 = .ok (.iconst 2, 1) := by decide +kernel
theorem d_R_readsHours_83 : decode m_R_readsHours.2.1 83 = .ok (.iload_n 2, 1) := by decide +kernel
theorem d_R_readsHours_84 : decode m_R_readsHours.2.1 84 = .ok (.iconst 1, 1) := by decide +kernel
theorem d_R_readsHours_85 : decode m_R_readsHours.2.1 85 = .ok (.iadd, 1) := by decide +kernel
theorem d_R_readsHours_86 : decode m_R_readsHours.2.1 86 = .ok (.bipush 24, 2) := by decide +kernel
theorem d_R_readsHours_88 : decode m_R_readsHours.2.1 88 = .ok (.invokevirtual 103, 3) := by decide +kernel
theorem d_R_readsHours_91 : decode m_R_readsHours.2.1 91 = .ok (.istore_n 3, 1) := by decide +kernel
theorem d_R_readsHours_92 : decode m_R_readsHours.2.1 92 = .ok (.iload_n 3, 1) := by decide +kernel
theorem d_R_readsHours_93 : decode m_R_readsHours.2.1 93 = .ok (.iconst (-1), 1) := by decide +kernel
theorem d_R_readsHours_94 : decode m_R_readsHours.2.1 94 = .ok (.if_icmp .eq 12, 3) := by decide +kernel
theorem d_R_readsHours_97 : decode m_R_readsHours.2.1 97 = .ok (.aload_n 0, 1) := by decide +kernel
theorem d_R_readsHours_98 : decode m_R_readsHours.2.1 98 = .ok (.bipush 10, 2) := by decide +kernel
theorem d_R_readsHours_100 : decode m_R_readsHours.2.1 100 = .ok (.invokevirtual 64, 3) := by decide +kernel
theorem d_R_readsHours_103 : decode m_R_readsHours.2.1 103 = .ok (.ifCond .ne 5, 3) := by decide +kernel
theorem d_R_readsHours_106 : decode m_R_readsHours.2.1 106 = .ok (.iconst 0, 1) := by decide +kernel
theorem d_R_readsHours_107 : decode m_R_readsHours.2.1 107 = .ok (.ireturn, 1) := by decide +kernel
theorem d_R_readsHours_108 : decode m_R_readsHours.2.1 108 = .ok (.aload_n 1, 1) := by decide +kernel
theorem d_R_readsHours_109 : decode m_R_readsHours.2.1 109 = .ok (.iload_n 2, 1) := by decide +kernel
theorem d_R_readsHours_110 : decode m_R_readsHours.2.1 110 = .ok (.putfield 114, 3) := by decide +kernel
theorem d_R_readsHours_113 : decode m_R_readsHours.2.1 113 = .ok (.aload_n 1, 1) := by decide +kernel
theorem d_R_readsHours_114 : decode m_R_readsHours.2.1 114 = .ok (.iload_n 3, 1) := by decide +kernel
theorem d_R_readsHours_115 : decode m_R_readsHours.2.1 115 = .ok (.putfield 117, 3) := by decide +kernel
theorem d_R_readsHours_118 : decode m_R_readsHours.2.1 118 = .ok (.iconst 1, 1) := by decide +kernel
theorem d_R_readsHours_119 : decode m_R_readsHours.2.1 119 = .ok (.ireturn, 1) := by decide +kernel
theorem d_E_find_0 : decode m_E_find.2.1 0 = .ok (.iconst 0, 1) := by decide +kernel
theorem d_E_find_1 : decode m_E_find.2.1 1 = .ok (.istore_n 2, 1) := by decide +kernel
theorem d_E_find_2 : decode m_E_find.2.1 2 = .ok (.iload_n 2, 1) := by decide +kernel
theorem d_E_find_3 : decode m_E_find.2.1 3 = .ok (.aload_n 0, 1) := by decide +kernel
theorem d_E_find_4 : decode m_E_find.2.1 4 = .ok (.getfield 27, 3) := by decide +kernel
theorem d_E_find_7 : decode m_E_find.2.1 7 = .ok (.if_icmp .ge 29, 3) := by decide +kernel
theorem d_E_find_10 : decode m_E_find.2.1 10 = .ok (.aload_n 0, 1) := by decide +kernel
theorem d_E_find_11 : decode m_E_find.2.1 11 = .ok (.iload_n 2, 1) := by decide +kernel
theorem d_E_find_12 : decode m_E_find.2.1 12 = .ok (.invokevirtual 34, 3) := by decide +kernel
theorem d_E_find_15 : decode m_E_find.2.1 15 = .ok (.astore_n 3, 1) := by decide +kernel
theorem d_E_find_16 : decode m_E_find.2.1 16 = .ok (.aload_n 3, 1) := by decide +kernel
theorem d_E_find_17 : decode m_E_find.2.1 17 = .ok (.ifnull 13, 3) := by decide +kernel
theorem d_E_find_20 : decode m_E_find.2.1 20 = .ok (.aload_n 3, 1) := by decide +kernel
theorem d_E_find_21 : decode m_E_find.2.1 21 = .ok (.getfield 38, 3) := by decide +kernel
theorem d_E_find_24 : decode m_E_find.2.1 24 = .ok (.iload_n 1, 1) := by decide +kernel
theorem d_E_find_25 : decode m_E_find.2.1 25 = .ok (.if_icmp .ne 5, 3) := by decide +kernel
theorem d_E_find_28 : decode m_E_find.2.1 28 = .ok (.aload_n 3, 1) := by decide +kernel
theorem d_E_find_29 : decode m_E_find.2.1 29 = .ok (.areturn, 1) := by decide +kernel
theorem d_E_find_30 : decode m_E_find.2.1 30 = .ok (.iinc 2 1, 3) := by decide +kernel
theorem d_E_find_33 : decode m_E_find.2.1 33 = .ok (.goto (-31), 3) := by decide +kernel
theorem d_E_find_36 : decode m_E_find.2.1 36 = .ok (.aconst_null, 1) := by decide +kernel
theorem d_E_find_37 : decode m_E_find.2.1 37 = .ok (.areturn, 1) := by decide +kernel
theorem d_E_serviceAt_0 : decode m_E_serviceAt.2.1 0 = .ok (.iload_n 1, 1) := by decide +kernel
theorem d_E_serviceAt_1 : decode m_E_serviceAt.2.1 1 = .ok (.ifCond .lt 29, 3) := by decide +kernel
theorem d_E_serviceAt_4 : decode m_E_serviceAt.2.1 4 = .ok (.iload_n 1, 1) := by decide +kernel
theorem d_E_serviceAt_5 : decode m_E_serviceAt.2.1 5 = .ok (.aload_n 0, 1) := by decide +kernel
theorem d_E_serviceAt_6 : decode m_E_serviceAt.2.1 6 = .ok (.getfield 27, 3) := by decide +kernel
theorem d_E_serviceAt_9 : decode m_E_serviceAt.2.1 9 = .ok (.if_icmp .ge 21, 3) := by decide +kernel
theorem d_E_serviceAt_12 : decode m_E_serviceAt.2.1 12 = .ok (.iload_n 1, 1) := by decide +kernel
theorem d_E_serviceAt_13 : decode m_E_serviceAt.2.1 13 = .ok (.aload_n 0, 1) := by decide +kernel
theorem d_E_serviceAt_14 : decode m_E_serviceAt.2.1 14 = .ok (.getfield 11, 3) := by decide +kernel
theorem d_E_serviceAt_17 : decode m_E_serviceAt.2.1 17 = .ok (.arraylength, 1) := by decide +kernel
theorem d_E_serviceAt_18 : decode m_E_serviceAt.2.1 18 = .ok (.if_icmp .ge 12, 3) := by decide +kernel
theorem d_E_serviceAt_21 : decode m_E_serviceAt.2.1 21 = .ok (.aload_n 0, 1) := by decide +kernel
theorem d_E_serviceAt_22 : decode m_E_serviceAt.2.1 22 = .ok (.getfield 11, 3) := by decide +kernel
theorem d_E_serviceAt_25 : decode m_E_serviceAt.2.1 25 = .ok (.iload_n 1, 1) := by decide +kernel
theorem d_E_serviceAt_26 : decode m_E_serviceAt.2.1 26 = .ok (.aaload, 1) := by decide +kernel
theorem d_E_serviceAt_27 : decode m_E_serviceAt.2.1 27 = .ok (.goto 4, 3) := by decide +kernel
theorem d_E_serviceAt_30 : decode m_E_serviceAt.2.1 30 = .ok (.aconst_null, 1) := by decide +kernel
theorem d_E_serviceAt_31 : decode m_E_serviceAt.2.1 31 = .ok (.areturn, 1) := by decide +kernel
theorem d_S_hasHours_0 : decode m_S_hasHours.2.1 0 = .ok (.aload_n 0, 1) := by decide +kernel
theorem d_S_hasHours_1 : decode m_S_hasHours.2.1 1 = .ok (.getfield 41, 3) := by decide +kernel
theorem d_S_hasHours_4 : decode m_S_hasHours.2.1 4 = .ok (.ifCond .le 7, 3) := by decide +kernel
theorem d_S_hasHours_7 : decode m_S_hasHours.2.1 7 = .ok (.iconst 1, 1) := by decide +kernel
theorem d_S_hasHours_8 : decode m_S_hasHours.2.1 8 = .ok (.goto 4, 3) := by decide +kernel
theorem d_S_hasHours_11 : decode m_S_hasHours.2.1 11 = .ok (.iconst 0, 1) := by decide +kernel
theorem d_S_hasHours_12 : decode m_S_hasHours.2.1 12 = .ok (.ireturn, 1) := by decide +kernel
theorem d_R_readsService_0 : decode m_R_readsService.2.1 0 = .ok (.aload_n 0, 1) := by decide +kernel
theorem d_R_readsService_1 : decode m_R_readsService.2.1 1 = .ok (.invokevirtual 37, 3) := by decide +kernel
theorem d_R_readsService_4 : decode m_R_readsService.2.1 4 = .ok (.istore_n 1, 1) := by decide +kernel
theorem d_R_readsService_5 : decode m_R_readsService.2.1 5 = .ok (.iload_n 1, 1) := by decide +kernel
theorem d_R_readsService_6 : decode m_R_readsService.2.1 6 = .ok (.invokestatic 51, 3) := by decide +kernel
theorem d_R_readsService_9 : decode m_R_readsService.2.1 9 = .ok (.ifCond .eq 14, 3) := by decide +kernel
theorem d_R_readsService_12 : decode m_R_readsService.2.1 12 = .ok (.aload_n 0, 1) := by decide +kernel
theorem d_R_readsService_13 : decode m_R_readsService.2.1 13 = .ok (.getfield 18, 3) := by decide +kernel
theorem d_R_readsService_16 : decode m_R_readsService.2.1 16 = .ok (.iload_n 1, 1) := by decide +kernel
theorem d_R_readsService_17 : decode m_R_readsService.2.1 17 = .ok (.invokevirtual 55, 3) := by decide +kernel
theorem d_R_readsService_20 : decode m_R_readsService.2.1 20 = .ok (.ifnull 5, 3) := by decide +kernel
theorem d_R_readsService_23 : decode m_R_readsService.2.1 23 = .ok (.iconst 0, 1) := by decide +kernel
theorem d_R_readsService_24 : decode m_R_readsService.2.1 24 = .ok (.ireturn, 1) := by decide +kernel
theorem d_R_readsService_25 : decode m_R_readsService.2.1 25 = .ok (.aload_n 0, 1) := by decide +kernel
theorem d_R_readsService_26 : decode m_R_readsService.2.1 26 = .ok (.dup, 1) := by decide +kernel
theorem d_R_readsService_27 : decode m_R_readsService.2.1 27 = .ok (.getfield 25, 3) := by decide +kernel
theorem d_R_readsService_30 : decode m_R_readsService.2.1 30 = .ok (.iconst 1, 1) := by decide +kernel
theorem d_R_readsService_31 : decode m_R_readsService.2.1 31 = .ok (.iadd, 1) := by decide +kernel
theorem d_R_readsService_32 : decode m_R_readsService.2.1 32 = .ok (.putfield 25, 3) := by decide +kernel
theorem d_R_readsService_35 : decode m_R_readsService.2.1 35 = .ok (.new 59, 3) := by decide +kernel
theorem d_R_readsService_38 : decode m_R_readsService.2.1 38 = .ok (.dup, 1) := by decide +kernel
theorem d_R_readsService_39 : decode m_R_readsService.2.1 39 = .ok (.iload_n 1, 1) := by decide +kernel
theorem d_R_readsService_40 : decode m_R_readsService.2.1 40 = .ok (.invokespecial 61, 3) := by decide +kernel
theorem d_R_readsService_43 : decode m_R_readsService.2.1 43 = .ok (.astore_n 2, 1) := by decide +kernel
theorem d_R_readsService_44 : decode m_R_readsService.2.1 44 = .ok (.aload_n 0, 1) := by decide +kernel
theorem d_R_readsService_45 : decode m_R_readsService.2.1 45 = .ok (.bipush 58, 2) := by decide +kernel
theorem d_R_readsService_47 : decode m_R_readsService.2.1 47 = .ok (.invokevirtual 64, 3) := by decide +kernel
theorem d_R_readsService_50 : decode m_R_readsService.2.1 50 = .ok (.ifCond .eq 28, 3) := by decide +kernel
theorem d_R_readsService_53 : decode m_R_readsService.2.1 53 = .ok (.aload_n 0, 1) := by decide +kernel
theorem d_R_readsService_54 : decode m_R_readsService.2.1 54 = .ok (.aload_n 2, 1) := by decide +kernel
theorem d_R_readsService_55 : decode m_R_readsService.2.1 55 = .ok (.invokevirtual 67, 3) := by decide +kernel
theorem d_R_readsService_58 : decode m_R_readsService.2.1 58 = .ok (.ifCond .eq 20, 3) := by decide +kernel
theorem d_R_readsService_61 : decode m_R_readsService.2.1 61 = .ok (.aload_n 0, 1) := by decide +kernel
theorem d_R_readsService_62 : decode m_R_readsService.2.1 62 = .ok (.aload_n 2, 1) := by decide +kernel
theorem d_R_readsService_63 : decode m_R_readsService.2.1 63 = .ok (.invokevirtual 71, 3) := by decide +kernel
theorem d_R_readsService_66 : decode m_R_readsService.2.1 66 = .ok (.ifCond .eq 12, 3) := by decide +kernel
theorem d_R_readsService_69 : decode m_R_readsService.2.1 69 = .ok (.aload_n 0, 1) := by decide +kernel
theorem d_R_readsService_70 : decode m_R_readsService.2.1 70 = .ok (.bipush 10, 2) := by decide +kernel
theorem d_R_readsService_72 : decode m_R_readsService.2.1 72 = .ok (.invokevirtual 64, 3) := by decide +kernel
theorem d_R_readsService_75 : decode m_R_readsService.2.1 75 = .ok (.ifCond .ne 5, 3) := by decide +kernel
theorem d_R_readsService_78 : decode m_R_readsService.2.1 78 = .ok (.iconst 0, 1) := by decide +kernel
theorem d_R_readsService_79 : decode m_R_readsService.2.1 79 = .ok (.ireturn, 1) := by decide +kernel
theorem d_R_readsService_80 : decode m_R_readsService.2.1 80 = .ok (.aload_n 0, 1) := by decide +kernel
theorem d_R_readsService_81 : decode m_R_readsService.2.1 81 = .ok (.getfield 18, 3) := by decide +kernel
theorem d_R_readsService_84 : decode m_R_readsService.2.1 84 = .ok (.aload_n 2, 1) := by decide +kernel
theorem d_R_readsService_85 : decode m_R_readsService.2.1 85 = .ok (.invokevirtual 74, 3) := by decide +kernel
theorem d_R_readsService_88 : decode m_R_readsService.2.1 88 = .ok (.iconst 1, 1) := by decide +kernel
theorem d_R_readsService_89 : decode m_R_readsService.2.1 89 = .ok (.ireturn, 1) := by decide +kernel
theorem d_S_init_0 : decode m_S_init.2.1 0 = .ok (.aload_n 0, 1) := by decide +kernel
theorem d_S_init_1 : decode m_S_init.2.1 1 = .ok (.invokespecial 1, 3) := by decide +kernel
theorem d_S_init_4 : decode m_S_init.2.1 4 = .ok (.aload_n 0, 1) := by decide +kernel
theorem d_S_init_5 : decode m_S_init.2.1 5 = .ok (.iload_n 1, 1) := by decide +kernel
theorem d_S_init_6 : decode m_S_init.2.1 6 = .ok (.putfield 7, 3) := by decide +kernel
theorem d_S_init_9 : decode m_S_init.2.1 9 = .ok (.return_, 1) := by decide +kernel
theorem d_R_readsCapacity_0 : decode m_R_readsCapacity.2.1 0 = .ok (.aload_n 1, 1) := by decide +kernel
theorem d_R_readsCapacity_1 : decode m_R_readsCapacity.2.1 1 = .ok (.aload_n 0, 1) := by decide +kernel
theorem d_R_readsCapacity_2 : decode m_R_readsCapacity.2.1 2 = .ok (.invokevirtual 78, 3) := by decide +kernel
theorem d_R_readsCapacity_5 : decode m_R_readsCapacity.2.1 5 = .ok (.putfield 81, 3) := by decide +kernel
theorem d_R_readsCapacity_8 : decode m_R_readsCapacity.2.1 8 = .ok (.aload_n 1, 1) := by decide +kernel
theorem d_R_readsCapacity_9 : decode m_R_readsCapacity.2.1 9 = .ok (.getfield 81, 3) := by decide +kernel
theorem d_R_readsCapacity_12 : decode m_R_readsCapacity.2.1 12 = .ok (.ifCond .eq 12, 3) := by decide +kernel
theorem d_R_readsCapacity_15 : decode m_R_readsCapacity.2.1 15 = .ok (.aload_n 0, 1) := by decide +kernel
theorem d_R_readsCapacity_16 : decode m_R_readsCapacity.2.1 16 = .ok (.bipush 58, 2) := by decide +kernel
theorem d_R_readsCapacity_18 : decode m_R_readsCapacity.2.1 18 = .ok (.invokevirtual 64, 3) := by decide +kernel
theorem d_R_readsCapacity_21 : decode m_R_readsCapacity.2.1 21 = .ok (.ifCond .ne 5, 3) := by decide +kernel
theorem d_R_readsCapacity_24 : decode m_R_readsCapacity.2.1 24 = .ok (.iconst 0, 1) := by decide +kernel
theorem d_R_readsCapacity_25 : decode m_R_readsCapacity.2.1 25 = .ok (.ireturn, 1) := by decide +kernel
theorem d_R_readsCapacity_26 : decode m_R_readsCapacity.2.1 26 = .ok (.aload_n 1, 1) := by decide +kernel
theorem d_R_readsCapacity_27 : decode m_R_readsCapacity.2.1 27 = .ok (.aload_n 0, 1) := by decide +kernel
theorem d_R_readsCapacity_28 : decode m_R_readsCapacity.2.1 28 = .ok (.iconst 1, 1) := by decide +kernel
theorem d_R_readsCapacity_29 : decode m_R_readsCapacity.2.1 29 = .ok (.sipush 1000, 3) := by decide +kernel
theorem d_R_readsCapacity_32 : decode m_R_readsCapacity.2.1 32 = .ok (.invokevirtual 84, 3) := by decide +kernel
theorem d_R_readsCapacity_35 : decode m_R_readsCapacity.2.1 35 = .ok (.putfield 88, 3) := by decide +kernel
theorem d_R_readsCapacity_38 : decode m_R_readsCapacity.2.1 38 = .ok (.aload_n 1, 1) := by decide +kernel
theorem d_R_readsCapacity_39 : decode m_R_readsCapacity.2.1 39 = .ok (.getfield 88, 3) := by decide +kernel
theorem d_R_readsCapacity_42 : decode m_R_readsCapacity.2.1 42 = .ok (.iconst (-1), 1) := by decide +kernel
theorem d_R_readsCapacity_43 : decode m_R_readsCapacity.2.1 43 = .ok (.if_icmp .eq 12, 3) := by decide +kernel
theorem d_R_readsCapacity_46 : decode m_R_readsCapacity.2.1 46 = .ok (.aload_n 0, 1) := by decide +kernel
theorem d_R_readsCapacity_47 : decode m_R_readsCapacity.2.1 47 = .ok (.bipush 58, 2) := by decide +kernel
theorem d_R_readsCapacity_49 : decode m_R_readsCapacity.2.1 49 = .ok (.invokevirtual 64, 3) := by decide +kernel
theorem d_R_readsCapacity_52 : decode m_R_readsCapacity.2.1 52 = .ok (.ifCond .ne 5, 3) := by decide +kernel
theorem d_R_readsCapacity_55 : decode m_R_readsCapacity.2.1 55 = .ok (.iconst 0, 1) := by decide +kernel
theorem d_R_readsCapacity_56 : decode m_R_readsCapacity.2.1 56 = .ok (.ireturn, 1) := by decide +kernel
theorem d_R_readsCapacity_57 : decode m_R_readsCapacity.2.1 57 = .ok (.aload_n 1, 1) := by decide +kernel
theorem d_R_readsCapacity_58 : decode m_R_readsCapacity.2.1 58 = .ok (.aload_n 0, 1) := by decide +kernel
theorem d_R_readsCapacity_59 : decode m_R_readsCapacity.2.1 59 = .ok (.iconst 1, 1) := by decide +kernel
theorem d_R_readsCapacity_60 : decode m_R_readsCapacity.2.1 60 = .ok (.sipush 500, 3) := by decide +kernel
theorem d_R_readsCapacity_63 : decode m_R_readsCapacity.2.1 63 = .ok (.invokevirtual 84, 3) := by decide +kernel
theorem d_R_readsCapacity_66 : decode m_R_readsCapacity.2.1 66 = .ok (.putfield 91, 3) := by decide +kernel
theorem d_R_readsCapacity_69 : decode m_R_readsCapacity.2.1 69 = .ok (.aload_n 1, 1) := by decide +kernel
theorem d_R_readsCapacity_70 : decode m_R_readsCapacity.2.1 70 = .ok (.getfield 91, 3) := by decide +kernel
theorem d_R_readsCapacity_73 : decode m_R_readsCapacity.2.1 73 = .ok (.iconst (-1), 1) := by decide +kernel
theorem d_R_readsCapacity_74 : decode m_R_readsCapacity.2.1 74 = .ok (.if_icmp .eq 12, 3) := by decide +kernel
theorem d_R_readsCapacity_77 : decode m_R_readsCapacity.2.1 77 = .ok (.aload_n 0, 1) := by decide +kernel
theorem d_R_readsCapacity_78 : decode m_R_readsCapacity.2.1 78 = .ok (.bipush 58, 2) := by decide +kernel
theorem d_R_readsCapacity_80 : decode m_R_readsCapacity.2.1 80 = .ok (.invokevirtual 64, 3) := by decide +kernel
theorem d_R_readsCapacity_83 : decode m_R_readsCapacity.2.1 83 = .ok (.ifCond .ne 5, 3) := by decide +kernel
theorem d_R_readsCapacity_86 : decode m_R_readsCapacity.2.1 86 = .ok (.iconst 0, 1) := by decide +kernel
theorem d_R_readsCapacity_87 : decode m_R_readsCapacity.2.1 87 = .ok (.ireturn, 1) := by decide +kernel
theorem d_R_readsCapacity_88 : decode m_R_readsCapacity.2.1 88 = .ok (.aload_n 1, 1) := by decide +kernel
theorem d_R_readsCapacity_89 : decode m_R_readsCapacity.2.1 89 = .ok (.aload_n 0, 1) := by decide +kernel
theorem d_R_readsCapacity_90 : decode m_R_readsCapacity.2.1 90 = .ok (.invokevirtual 78, 3) := by decide +kernel
theorem d_R_readsCapacity_93 : decode m_R_readsCapacity.2.1 93 = .ok (.putfield 94, 3) := by decide +kernel
theorem d_R_readsCapacity_96 : decode m_R_readsCapacity.2.1 96 = .ok (.aload_n 0, 1) := by decide +kernel
theorem d_R_readsCapacity_97 : decode m_R_readsCapacity.2.1 97 = .ok (.bipush 58, 2) := by decide +kernel
theorem d_R_readsCapacity_99 : decode m_R_readsCapacity.2.1 99 = .ok (.invokevirtual 64, 3) := by decide +kernel
theorem d_R_readsCapacity_102 : decode m_R_readsCapacity.2.1 102 = .ok (.ireturn, 1) := by decide +kernel
theorem d_R_upwardDigits_0 : decode m_R_upwardDigits.2.1 0 = .ok (.iconst 0, 1) := by decide +kernel
theorem d_R_upwardDigits_1 : decode m_R_upwardDigits.2.1 1 = .ok (.istore_n 1, 1) := by decide +kernel
theorem d_R_upwardDigits_2 : decode m_R_upwardDigits.2.1 2 = .ok (.bipush 48, 2) := by decide +kernel
theorem d_R_upwardDigits_4 : decode m_R_upwardDigits.2.1 4 = .ok (.istore_n 2, 1) := by decide +kernel
theorem d_R_upwardDigits_5 : decode m_R_upwardDigits.2.1 5 = .ok (.iconst 1, 1) := by decide +kernel
theorem d_R_upwardDigits_6 : decode m_R_upwardDigits.2.1 6 = .ok (.istore_n 3, 1) := by decide +kernel
theorem d_R_upwardDigits_7 : decode m_R_upwardDigits.2.1 7 = .ok (.iload_n 3, 1) := by decide +kernel
theorem d_R_upwardDigits_8 : decode m_R_upwardDigits.2.1 8 = .ok (.bipush 9, 2) := by decide +kernel
theorem d_R_upwardDigits_10 : decode m_R_upwardDigits.2.1 10 = .ok (.if_icmp .gt 48, 3) := by decide +kernel
theorem d_R_upwardDigits_13 : decode m_R_upwardDigits.2.1 13 = .ok (.aload_n 0, 1) := by decide +kernel
theorem d_R_upwardDigits_14 : decode m_R_upwardDigits.2.1 14 = .ok (.invokevirtual 37, 3) := by decide +kernel
theorem d_R_upwardDigits_17 : decode m_R_upwardDigits.2.1 17 = .ok (.iload_n 2, 1) := by decide +kernel
theorem d_R_upwardDigits_18 : decode m_R_upwardDigits.2.1 18 = .ok (.iconst 1, 1) := by decide +kernel
theorem d_R_upwardDigits_19 : decode m_R_upwardDigits.2.1 19 = .ok (.iadd, 1) := by decide +kernel
theorem d_R_upwardDigits_20 : decode m_R_upwardDigits.2.1 20 = .ok (.bipush 57, 2) := by decide +kernel
theorem d_R_upwardDigits_22 : decode m_R_upwardDigits.2.1 22 = .ok (.invokestatic 124, 3) := by decide +kernel
theorem d_R_upwardDigits_25 : decode m_R_upwardDigits.2.1 25 = .ok (.ifCond .eq 33, 3) := by decide +kernel
theorem d_R_upwardDigits_28 : decode m_R_upwardDigits.2.1 28 = .ok (.aload_n 0, 1) := by decide +kernel
theorem d_R_upwardDigits_29 : decode m_R_upwardDigits.2.1 29 = .ok (.invokevirtual 37, 3) := by decide +kernel
theorem d_R_upwardDigits_32 : decode m_R_upwardDigits.2.1 32 = .ok (.istore_n 2, 1) := by decide +kernel
theorem d_R_upwardDigits_33 : decode m_R_upwardDigits.2.1 33 = .ok (.iload_n 1, 1) := by decide +kernel
theorem d_R_upwardDigits_34 : decode m_R_upwardDigits.2.1 34 = .ok (.iconst 1, 1) := by decide +kernel
theorem d_R_upwardDigits_35 : decode m_R_upwardDigits.2.1 35 = .ok (.iload_n 2, 1) := by decide +kernel
theorem d_R_upwardDigits_36 : decode m_R_upwardDigits.2.1 36 = .ok (.bipush 48, 2) := by decide +kernel
theorem d_R_upwardDigits_38 : decode m_R_upwardDigits.2.1 38 = .ok (.isub, 1) := by decide +kernel
theorem d_R_upwardDigits_39 : decode m_R_upwardDigits.2.1 39 = .ok (.ishl, 1) := by decide +kernel
theorem d_R_upwardDigits_40 : decode m_R_upwardDigits.2.1 40 = .ok (.ior, 1) := by decide +kernel
theorem d_R_upwardDigits_41 : decode m_R_upwardDigits.2.1 41 = .ok (.istore_n 1, 1) := by decide +kernel
theorem d_R_upwardDigits_42 : decode m_R_upwardDigits.2.1 42 = .ok (.aload_n 0, 1) := by decide +kernel
theorem d_R_upwardDigits_43 : decode m_R_upwardDigits.2.1 43 = .ok (.dup, 1) := by decide +kernel
theorem d_R_upwardDigits_44 : decode m_R_upwardDigits.2.1 44 = .ok (.getfield 25, 3) := by decide +kernel
theorem d_R_upwardDigits_47 : decode m_R_upwardDigits.2.1 47 = .ok (.iconst 1, 1) := by decide +kernel
theorem d_R_upwardDigits_48 : decode m_R_upwardDigits.2.1 48 = .ok (.iadd, 1) := by decide +kernel
theorem d_R_upwardDigits_49 : decode m_R_upwardDigits.2.1 49 = .ok (.putfield 25, 3) := by decide +kernel
theorem d_R_upwardDigits_52 : decode m_R_upwardDigits.2.1 52 = .ok (.iinc 3 1, 3) := by decide +kernel
theorem d_R_upwardDigits_55 : decode m_R_upwardDigits.2.1 55 = .ok (.goto (-48), 3) := by decide +kernel
theorem d_R_upwardDigits_58 : decode m_R_upwardDigits.2.1 58 = .ok (.iload_n 1, 1) := by decide +kernel
theorem d_R_upwardDigits_59 : decode m_R_upwardDigits.2.1 59 = .ok (.ireturn, 1) := by decide +kernel
theorem d_R_freeNumber_0 : decode m_R_freeNumber.2.1 0 = .ok (.aload_n 0, 1) := by decide +kernel
theorem d_R_freeNumber_1 : decode m_R_freeNumber.2.1 1 = .ok (.getfield 25, 3) := by decide +kernel
theorem d_R_freeNumber_4 : decode m_R_freeNumber.2.1 4 = .ok (.istore_n 3, 1) := by decide +kernel
theorem d_R_freeNumber_5 : decode m_R_freeNumber.2.1 5 = .ok (.aload_n 0, 1) := by decide +kernel
theorem d_R_freeNumber_6 : decode m_R_freeNumber.2.1 6 = .ok (.invokevirtual 37, 3) := by decide +kernel
theorem d_R_freeNumber_9 : decode m_R_freeNumber.2.1 9 = .ok (.bipush 48, 2) := by decide +kernel
theorem d_R_freeNumber_11 : decode m_R_freeNumber.2.1 11 = .ok (.if_icmp .ne 19, 3) := by decide +kernel
theorem d_R_freeNumber_14 : decode m_R_freeNumber.2.1 14 = .ok (.iload_n 1, 1) := by decide +kernel
theorem d_R_freeNumber_15 : decode m_R_freeNumber.2.1 15 = .ok (.ifCond .ne 15, 3) := by decide +kernel
theorem d_R_freeNumber_18 : decode m_R_freeNumber.2.1 18 = .ok (.aload_n 0, 1) := by decide +kernel
theorem d_R_freeNumber_19 : decode m_R_freeNumber.2.1 19 = .ok (.dup, 1) := by decide +kernel
theorem d_R_freeNumber_20 : decode m_R_freeNumber.2.1 20 = .ok (.getfield 25, 3) := by decide +kernel
theorem d_R_freeNumber_23 : decode m_R_freeNumber.2.1 23 = .ok (.iconst 1, 1) := by decide +kernel
theorem d_R_freeNumber_24 : decode m_R_freeNumber.2.1 24 = .ok (.iadd, 1) := by decide +kernel
theorem d_R_freeNumber_25 : decode m_R_freeNumber.2.1 25 = .ok (.putfield 25, 3) := by decide +kernel
theorem d_R_freeNumber_28 : decode m_R_freeNumber.2.1 28 = .ok (.iconst 0, 1) := by decide +kernel
theorem d_R_freeNumber_29 : decode m_R_freeNumber.2.1 29 = .ok (.ireturn, 1) := by decide +kernel
theorem d_R_freeNumber_30 : decode m_R_freeNumber.2.1 30 = .ok (.aload_n 0, 1) := by decide +kernel
theorem d_R_freeNumber_31 : decode m_R_freeNumber.2.1 31 = .ok (.invokevirtual 37, 3) := by decide +kernel
theorem d_R_freeNumber_34 : decode m_R_freeNumber.2.1 34 = .ok (.invokestatic 128, 3) := by decide +kernel
theorem d_R_freeNumber_37 : decode m_R_freeNumber.2.1 37 = .ok (.ifCond .eq 12, 3) := by decide +kernel
theorem d_R_freeNumber_40 : decode m_R_freeNumber.2.1 40 = .ok (.aload_n 0, 1) := by decide +kernel
theorem d_R_freeNumber_41 : decode m_R_freeNumber.2.1 41 = .ok (.invokevirtual 37, 3) := by decide +kernel
theorem d_R_freeNumber_44 : decode m_R_freeNumber.2.1 44 = .ok (.bipush 48, 2) := by decide +kernel
theorem d_R_freeNumber_46 : decode m_R_freeNumber.2.1 46 = .ok (.if_icmp .ne 5, 3) := by decide +kernel
theorem d_R_freeNumber_49 : decode m_R_freeNumber.2.1 49 = .ok (.iconst (-1), 1) := by decide +kernel
theorem d_R_freeNumber_50 : decode m_R_freeNumber.2.1 50 = .ok (.ireturn, 1) := by decide +kernel
theorem d_R_freeNumber_51 : decode m_R_freeNumber.2.1 51 = .ok (.iconst 0, 1) := by decide +kernel
theorem d_R_freeNumber_52 : decode m_R_freeNumber.2.1 52 = .ok (.istore 4, 2) := by decide +kernel
theorem d_R_freeNumber_54 : decode m_R_freeNumber.2.1 54 = .ok (.iconst 0, 1) := by decide +kernel
theorem d_R_freeNumber_55 : decode m_R_freeNumber.2.1 55 = .ok (.istore 5, 2) := by decide +kernel
theorem d_R_freeNumber_57 : decode m_R_freeNumber.2.1 57 = .ok (.iload 5, 2) := by decide +kernel
theorem d_R_freeNumber_59 : decode m_R_freeNumber.2.1 59 = .ok (.sipush 500, 3) := by decide +kernel
theorem d_R_freeNumber_62 : decode m_R_freeNumber.2.1 62 = .ok (.if_icmp .ge 50, 3) := by decide +kernel
theorem d_R_freeNumber_65 : decode m_R_freeNumber.2.1 65 = .ok (.aload_n 0, 1) := by decide +kernel
theorem d_R_freeNumber_66 : decode m_R_freeNumber.2.1 66 = .ok (.invokevirtual 37, 3) := by decide +kernel
theorem d_R_freeNumber_69 : decode m_R_freeNumber.2.1 69 = .ok (.invokestatic 128, 3) := by decide +kernel
theorem d_R_freeNumber_72 : decode m_R_freeNumber.2.1 72 = .ok (.ifCond .eq 40, 3) := by decide +kernel
theorem d_R_freeNumber_75 : decode m_R_freeNumber.2.1 75 = .ok (.iload 4, 2) := by decide +kernel
theorem d_R_freeNumber_77 : decode m_R_freeNumber.2.1 77 = .ok (.iload_n 2, 1) := by decide +kernel
theorem d_R_freeNumber_78 : decode m_R_freeNumber.2.1 78 = .ok (.if_icmp .gt 18, 3) := by decide +kernel
theorem d_R_freeNumber_81 : decode m_R_freeNumber.2.1 81 = .ok (.iload 4, 2) := by decide +kernel
theorem d_R_freeNumber_83 : decode m_R_freeNumber.2.1 83 = .ok (.bipush 10, 2) := by decide +kernel
theorem d_R_freeNumber_85 : decode m_R_freeNumber.2.1 85 = .ok (.imul, 1) := by decide +kernel
theorem d_R_freeNumber_86 : decode m_R_freeNumber.2.1 86 = .ok (.aload_n 0, 1) := by decide +kernel
theorem d_R_freeNumber_87 : decode m_R_freeNumber.2.1 87 = .ok (.invokevirtual 37, 3) := by decide +kernel
theorem d_R_freeNumber_90 : decode m_R_freeNumber.2.1 90 = .ok (.iadd, 1) := by decide +kernel
theorem d_R_freeNumber_91 : decode m_R_freeNumber.2.1 91 = .ok (.bipush 48, 2) := by decide +kernel
theorem d_R_freeNumber_93 : decode m_R_freeNumber.2.1 93 = .ok (.isub, 1) := by decide +kernel
theorem d_R_freeNumber_94 : decode m_R_freeNumber.2.1 94 = .ok (.istore 4, 2) := by decide +kernel
theorem d_R_freeNumber_96 : decode m_R_freeNumber.2.1 96 = .ok (.aload_n 0, 1) := by decide +kernel
theorem d_R_freeNumber_97 : decode m_R_freeNumber.2.1 97 = .ok (.dup, 1) := by decide +kernel
theorem d_R_freeNumber_98 : decode m_R_freeNumber.2.1 98 = .ok (.getfield 25, 3) := by decide +kernel
theorem d_R_freeNumber_101 : decode m_R_freeNumber.2.1 101 = .ok (.iconst 1, 1) := by decide +kernel
theorem d_R_freeNumber_102 : decode m_R_freeNumber.2.1 102 = .ok (.iadd, 1) := by decide +kernel
theorem d_R_freeNumber_103 : decode m_R_freeNumber.2.1 103 = .ok (.putfield 25, 3) := by decide +kernel
theorem d_R_freeNumber_106 : decode m_R_freeNumber.2.1 106 = .ok (.iinc 5 1, 3) := by decide +kernel
theorem d_R_freeNumber_109 : decode m_R_freeNumber.2.1 109 = .ok (.goto (-52), 3) := by decide +kernel
theorem d_R_freeNumber_112 : decode m_R_freeNumber.2.1 112 = .ok (.aload_n 0, 1) := by decide +kernel
theorem d_R_freeNumber_113 : decode m_R_freeNumber.2.1 113 = .ok (.iload 4, 2) := by decide +kernel
theorem d_R_freeNumber_115 : decode m_R_freeNumber.2.1 115 = .ok (.iload_n 3, 1) := by decide +kernel
theorem d_R_freeNumber_116 : decode m_R_freeNumber.2.1 116 = .ok (.iload_n 1, 1) := by decide +kernel
theorem d_R_freeNumber_117 : decode m_R_freeNumber.2.1 117 = .ok (.iload_n 2, 1) := by decide +kernel
theorem d_R_freeNumber_118 : decode m_R_freeNumber.2.1 118 = .ok (.invokevirtual 131, 3) := by decide +kernel
theorem d_R_freeNumber_121 : decode m_R_freeNumber.2.1 121 = .ok (.ireturn, 1) := by decide +kernel
theorem d_R_readsPrice_0 : decode m_R_readsPrice.2.1 0 = .ok (.aload_n 1, 1) := by decide +kernel
theorem d_R_readsPrice_1 : decode m_R_readsPrice.2.1 1 = .ok (.aload_n 0, 1) := by decide +kernel
theorem d_R_readsPrice_2 : decode m_R_readsPrice.2.1 2 = .ok (.iconst 0, 1) := by decide +kernel
theorem d_R_readsPrice_3 : decode m_R_readsPrice.2.1 3 = .ok (.sipush 999, 3) := by decide +kernel
theorem d_R_readsPrice_6 : decode m_R_readsPrice.2.1 6 = .ok (.invokevirtual 84, 3) := by decide +kernel
theorem d_R_readsPrice_9 : decode m_R_readsPrice.2.1 9 = .ok (.putfield 97, 3) := by decide +kernel
theorem d_R_readsPrice_12 : decode m_R_readsPrice.2.1 12 = .ok (.aload_n 1, 1) := by decide +kernel
theorem d_R_readsPrice_13 : decode m_R_readsPrice.2.1 13 = .ok (.getfield 97, 3) := by decide +kernel
theorem d_R_readsPrice_16 : decode m_R_readsPrice.2.1 16 = .ok (.iconst (-1), 1) := by decide +kernel
theorem d_R_readsPrice_17 : decode m_R_readsPrice.2.1 17 = .ok (.if_icmp .eq 12, 3) := by decide +kernel
theorem d_R_readsPrice_20 : decode m_R_readsPrice.2.1 20 = .ok (.aload_n 0, 1) := by decide +kernel
theorem d_R_readsPrice_21 : decode m_R_readsPrice.2.1 21 = .ok (.bipush 43, 2) := by decide +kernel
theorem d_R_readsPrice_23 : decode m_R_readsPrice.2.1 23 = .ok (.invokevirtual 64, 3) := by decide +kernel
theorem d_R_readsPrice_26 : decode m_R_readsPrice.2.1 26 = .ok (.ifCond .ne 5, 3) := by decide +kernel
theorem d_R_readsPrice_29 : decode m_R_readsPrice.2.1 29 = .ok (.iconst 0, 1) := by decide +kernel
theorem d_R_readsPrice_30 : decode m_R_readsPrice.2.1 30 = .ok (.ireturn, 1) := by decide +kernel
theorem d_R_readsPrice_31 : decode m_R_readsPrice.2.1 31 = .ok (.aload_n 1, 1) := by decide +kernel
theorem d_R_readsPrice_32 : decode m_R_readsPrice.2.1 32 = .ok (.aload_n 0, 1) := by decide +kernel
theorem d_R_readsPrice_33 : decode m_R_readsPrice.2.1 33 = .ok (.iconst 0, 1) := by decide +kernel
theorem d_R_readsPrice_34 : decode m_R_readsPrice.2.1 34 = .ok (.bipush 99, 2) := by decide +kernel
theorem d_R_readsPrice_36 : decode m_R_readsPrice.2.1 36 = .ok (.invokevirtual 84, 3) := by decide +kernel
theorem d_R_readsPrice_39 : decode m_R_readsPrice.2.1 39 = .ok (.putfield 100, 3) := by decide +kernel
theorem d_R_readsPrice_42 : decode m_R_readsPrice.2.1 42 = .ok (.aload_n 1, 1) := by decide +kernel
theorem d_R_readsPrice_43 : decode m_R_readsPrice.2.1 43 = .ok (.getfield 100, 3) := by decide +kernel
theorem d_R_readsPrice_46 : decode m_R_readsPrice.2.1 46 = .ok (.iconst (-1), 1) := by decide +kernel
theorem d_R_readsPrice_47 : decode m_R_readsPrice.2.1 47 = .ok (.if_icmp .eq 7, 3) := by decide +kernel
theorem d_R_readsPrice_50 : decode m_R_readsPrice.2.1 50 = .ok (.iconst 1, 1) := by decide +kernel
theorem d_R_readsPrice_51 : decode m_R_readsPrice.2.1 51 = .ok (.goto 4, 3) := by decide +kernel
theorem d_R_readsPrice_54 : decode m_R_readsPrice.2.1 54 = .ok (.iconst 0, 1) := by decide +kernel
theorem d_R_readsPrice_55 : decode m_R_readsPrice.2.1 55 = .ok (.ireturn, 1) := by decide +kernel
theorem d_E_addService_0 : decode m_E_addService.2.1 0 = .ok (.aload_n 0, 1) := by decide +kernel
theorem d_E_addService_1 : decode m_E_addService.2.1 1 = .ok (.getfield 27, 3) := by decide +kernel
theorem d_E_addService_4 : decode m_E_addService.2.1 4 = .ok (.ifCond .lt 35, 3) := by decide +kernel
theorem d_E_addService_7 : decode m_E_addService.2.1 7 = .ok (.aload_n 0, 1) := by decide +kernel
theorem d_E_addService_8 : decode m_E_addService.2.1 8 = .ok (.getfield 27, 3) := by decide +kernel
theorem d_E_addService_11 : decode m_E_addService.2.1 11 = .ok (.aload_n 0, 1) := by decide +kernel
theorem d_E_addService_12 : decode m_E_addService.2.1 12 = .ok (.getfield 11, 3) := by decide +kernel
theorem d_E_addService_15 : decode m_E_addService.2.1 15 = .ok (.arraylength, 1) := by decide +kernel
theorem d_E_addService_16 : decode m_E_addService.2.1 16 = .ok (.if_icmp .ge 23, 3) := by decide +kernel
theorem d_E_addService_19 : decode m_E_addService.2.1 19 = .ok (.aload_n 0, 1) := by decide +kernel
theorem d_E_addService_20 : decode m_E_addService.2.1 20 = .ok (.getfield 11, 3) := by decide +kernel
theorem d_E_addService_23 : decode m_E_addService.2.1 23 = .ok (.aload_n 0, 1) := by decide +kernel
theorem d_E_addService_24 : decode m_E_addService.2.1 24 = .ok (.getfield 27, 3) := by decide +kernel
theorem d_E_addService_27 : decode m_E_addService.2.1 27 = .ok (.aload_n 1, 1) := by decide +kernel
theorem d_E_addService_28 : decode m_E_addService.2.1 28 = .ok (.aastore, 1) := by decide +kernel
theorem d_E_addService_29 : decode m_E_addService.2.1 29 = .ok (.aload_n 0, 1) := by decide +kernel
theorem d_E_addService_30 : decode m_E_addService.2.1 30 = .ok (.dup, 1) := by decide +kernel
theorem d_E_addService_31 : decode m_E_addService.2.1 31 = .ok (.getfield 27, 3) := by decide +kernel
theorem d_E_addService_34 : decode m_E_addService.2.1 34 = .ok (.iconst 1, 1) := by decide +kernel
theorem d_E_addService_35 : decode m_E_addService.2.1 35 = .ok (.iadd, 1) := by decide +kernel
theorem d_E_addService_36 : decode m_E_addService.2.1 36 = .ok (.putfield 27, 3) := by decide +kernel
theorem d_E_addService_39 : decode m_E_addService.2.1 39 = .ok (.return_, 1) := by decide +kernel
theorem d_G_clear_0 : decode m_G_clear.2.1 0 = .ok (.aload_n 0, 1) := by decide +kernel
theorem d_G_clear_1 : decode m_G_clear.2.1 1 = .ok (.iconst 0, 1) := by decide +kernel
theorem d_G_clear_2 : decode m_G_clear.2.1 2 = .ok (.putfield 13, 3) := by decide +kernel
theorem d_G_clear_5 : decode m_G_clear.2.1 5 = .ok (.return_, 1) := by decide +kernel
theorem d_E_isOverfull_0 : decode m_E_isOverfull.2.1 0 = .ok (.aload_n 0, 1) := by decide +kernel
theorem d_E_isOverfull_1 : decode m_E_isOverfull.2.1 1 = .ok (.getfield 27, 3) := by decide +kernel
theorem d_E_isOverfull_4 : decode m_E_isOverfull.2.1 4 = .ok (.bipush 8, 2) := by decide +kernel
theorem d_E_isOverfull_6 : decode m_E_isOverfull.2.1 6 = .ok (.if_icmp .gt 12, 3) := by decide +kernel
theorem d_E_isOverfull_9 : decode m_E_isOverfull.2.1 9 = .ok (.aload_n 0, 1) := by decide +kernel
theorem d_E_isOverfull_10 : decode m_E_isOverfull.2.1 10 = .ok (.getfield 31, 3) := by decide +kernel
theorem d_E_isOverfull_13 : decode m_E_isOverfull.2.1 13 = .ok (.bipush 8, 2) := by decide +kernel
theorem d_E_isOverfull_15 : decode m_E_isOverfull.2.1 15 = .ok (.if_icmp .le 7, 3) := by decide +kernel
theorem d_E_isOverfull_18 : decode m_E_isOverfull.2.1 18 = .ok (.iconst 1, 1) := by decide +kernel
theorem d_E_isOverfull_19 : decode m_E_isOverfull.2.1 19 = .ok (.goto 4, 3) := by decide +kernel
theorem d_E_isOverfull_22 : decode m_E_isOverfull.2.1 22 = .ok (.iconst 0, 1) := by decide +kernel
theorem d_E_isOverfull_23 : decode m_E_isOverfull.2.1 23 = .ok (.ireturn, 1) := by decide +kernel
theorem d_R_handOverDraft_0 : decode m_R_handOverDraft.2.1 0 = .ok (.aload_n 0, 1) := by decide +kernel
theorem d_R_handOverDraft_1 : decode m_R_handOverDraft.2.1 1 = .ok (.getfield 18, 3) := by decide +kernel
theorem d_R_handOverDraft_4 : decode m_R_handOverDraft.2.1 4 = .ok (.astore_n 1, 1) := by decide +kernel
theorem d_R_handOverDraft_5 : decode m_R_handOverDraft.2.1 5 = .ok (.aload_n 0, 1) := by decide +kernel
theorem d_R_handOverDraft_6 : decode m_R_handOverDraft.2.1 6 = .ok (.new 15, 3) := by decide +kernel
theorem d_R_handOverDraft_9 : decode m_R_handOverDraft.2.1 9 = .ok (.dup, 1) := by decide +kernel
theorem d_R_handOverDraft_10 : decode m_R_handOverDraft.2.1 10 = .ok (.invokespecial 17, 3) := by decide +kernel
theorem d_R_handOverDraft_13 : decode m_R_handOverDraft.2.1 13 = .ok (.putfield 18, 3) := by decide +kernel
theorem d_R_handOverDraft_16 : decode m_R_handOverDraft.2.1 16 = .ok (.aload_n 1, 1) := by decide +kernel
theorem d_R_handOverDraft_17 : decode m_R_handOverDraft.2.1 17 = .ok (.areturn, 1) := by decide +kernel
theorem d_K_clear_0 : decode m_K_clear.2.1 0 = .ok (.aload_n 0, 1) := by decide +kernel
theorem d_K_clear_1 : decode m_K_clear.2.1 1 = .ok (.iconst 0, 1) := by decide +kernel
theorem d_K_clear_2 : decode m_K_clear.2.1 2 = .ok (.putfield 18, 3) := by decide +kernel
theorem d_K_clear_5 : decode m_K_clear.2.1 5 = .ok (.return_, 1) := by decide +kernel
theorem d_S_takes_0 : decode m_S_takes.2.1 0 = .ok (.iload_n 1, 1) := by decide +kernel
theorem d_S_takes_1 : decode m_S_takes.2.1 1 = .ok (.aload_n 0, 1) := by decide +kernel
theorem d_S_takes_2 : decode m_S_takes.2.1 2 = .ok (.getfield 22, 3) := by decide +kernel
theorem d_S_takes_5 : decode m_S_takes.2.1 5 = .ok (.if_icmp .gt 40, 3) := by decide +kernel
theorem d_S_takes_8 : decode m_S_takes.2.1 8 = .ok (.iload_n 2, 1) := by decide +kernel
theorem d_S_takes_9 : decode m_S_takes.2.1 9 = .ok (.aload_n 0, 1) := by decide +kernel
theorem d_S_takes_10 : decode m_S_takes.2.1 10 = .ok (.getfield 25, 3) := by decide +kernel
theorem d_S_takes_13 : decode m_S_takes.2.1 13 = .ok (.if_icmp .gt 32, 3) := by decide +kernel
theorem d_S_takes_16 : decode m_S_takes.2.1 16 = .ok (.aload_n 0, 1) := by decide +kernel
theorem d_S_takes_17 : decode m_S_takes.2.1 17 = .ok (.iload_n 3, 1) := by decide +kernel
theorem d_S_takes_18 : decode m_S_takes.2.1 18 = .ok (.invokevirtual 28, 3) := by decide +kernel
theorem d_S_takes_21 : decode m_S_takes.2.1 21 = .ok (.ifCond .eq 24, 3) := by decide +kernel
theorem d_S_takes_24 : decode m_S_takes.2.1 24 = .ok (.iload 4, 2) := by decide +kernel
theorem d_S_takes_26 : decode m_S_takes.2.1 26 = .ok (.ifCond .eq 15, 3) := by decide +kernel
theorem d_S_takes_29 : decode m_S_takes.2.1 29 = .ok (.aload_n 0, 1) := by decide +kernel
theorem d_S_takes_30 : decode m_S_takes.2.1 30 = .ok (.getfield 32, 3) := by decide +kernel
theorem d_S_takes_33 : decode m_S_takes.2.1 33 = .ok (.iload 4, 2) := by decide +kernel
theorem d_S_takes_35 : decode m_S_takes.2.1 35 = .ok (.invokestatic 16, 3) := by decide +kernel
theorem d_S_takes_38 : decode m_S_takes.2.1 38 = .ok (.ifCond .eq 7, 3) := by decide +kernel
theorem d_S_takes_41 : decode m_S_takes.2.1 41 = .ok (.iconst 1, 1) := by decide +kernel
theorem d_S_takes_42 : decode m_S_takes.2.1 42 = .ok (.goto 4, 3) := by decide +kernel
theorem d_S_takes_45 : decode m_S_takes.2.1 45 = .ok (.iconst 0, 1) := by decide +kernel
theorem d_S_takes_46 : decode m_S_takes.2.1 46 = .ok (.ireturn, 1) := by decide +kernel
theorem d_S_serves_0 : decode m_S_serves.2.1 0 = .ok (.aload_n 0, 1) := by decide +kernel
theorem d_S_serves_1 : decode m_S_serves.2.1 1 = .ok (.getfield 13, 3) := by decide +kernel
theorem d_S_serves_4 : decode m_S_serves.2.1 4 = .ok (.iload_n 1, 1) := by decide +kernel
theorem d_S_serves_5 : decode m_S_serves.2.1 5 = .ok (.invokestatic 16, 3) := by decide +kernel
theorem d_S_serves_8 : decode m_S_serves.2.1 8 = .ok (.ireturn, 1) := by decide +kernel
theorem d_S_priceFor_0 : decode m_S_priceFor.2.1 0 = .ok (.aload_n 0, 1) := by decide +kernel
theorem d_S_priceFor_1 : decode m_S_priceFor.2.1 1 = .ok (.getfield 35, 3) := by decide +kernel
theorem d_S_priceFor_4 : decode m_S_priceFor.2.1 4 = .ok (.aload_n 0, 1) := by decide +kernel
theorem d_S_priceFor_5 : decode m_S_priceFor.2.1 5 = .ok (.getfield 38, 3) := by decide +kernel
theorem d_S_priceFor_8 : decode m_S_priceFor.2.1 8 = .ok (.iload_n 1, 1) := by decide +kernel
theorem d_S_priceFor_9 : decode m_S_priceFor.2.1 9 = .ok (.bipush 9, 2) := by decide +kernel
theorem d_S_priceFor_11 : decode m_S_priceFor.2.1 11 = .ok (.iadd, 1) := by decide +kernel
theorem d_S_priceFor_12 : decode m_S_priceFor.2.1 12 = .ok (.bipush 10, 2) := by decide +kernel
theorem d_S_priceFor_14 : decode m_S_priceFor.2.1 14 = .ok (.idiv, 1) := by decide +kernel
theorem d_S_priceFor_15 : decode m_S_priceFor.2.1 15 = .ok (.imul, 1) := by decide +kernel
theorem d_S_priceFor_16 : decode m_S_priceFor.2.1 16 = .ok (.iadd, 1) := by decide +kernel
theorem d_S_priceFor_17 : decode m_S_priceFor.2.1 17 = .ok (.ireturn, 1) := by decide +kernel
theorem d_K_insert_0 : decode m_K_insert.2.1 0 = .ok (.aload_n 0, 1) := by decide +kernel
theorem d_K_insert_1 : decode m_K_insert.2.1 1 = .ok (.getfield 18, 3) := by decide +kernel
theorem d_K_insert_4 : decode m_K_insert.2.1 4 = .ok (.ifCond .lt 12, 3) := by decide +kernel
theorem d_K_insert_7 : decode m_K_insert.2.1 7 = .ok (.aload_n 0, 1) := by decide +kernel
theorem d_K_insert_8 : decode m_K_insert.2.1 8 = .ok (.getfield 18, 3) := by decide +kernel
theorem d_K_insert_11 : decode m_K_insert.2.1 11 = .ok (.bipush 8, 2) := by decide +kernel
theorem d_K_insert_13 : decode m_K_insert.2.1 13 = .ok (.if_icmp .lt 4, 3) := by decide +kernel
theorem d_K_insert_16 : decode m_K_insert.2.1 16 = .ok (.return_, 1) := by decide +kernel
theorem d_K_insert_17 : decode m_K_insert.2.1 17 = .ok (.aload_n 0, 1) := by decide +kernel
theorem d_K_insert_18 : decode m_K_insert.2.1 18 = .ok (.getfield 18, 3) := by decide +kernel
theorem d_K_insert_21 : decode m_K_insert.2.1 21 = .ok (.istore_n 3, 1) := by decide +kernel
theorem d_K_insert_22 : decode m_K_insert.2.1 22 = .ok (.iload_n 3, 1) := by decide +kernel
theorem d_K_insert_23 : decode m_K_insert.2.1 23 = .ok (.ifCond .le 49, 3) := by decide +kernel
theorem d_K_insert_26 : decode m_K_insert.2.1 26 = .ok (.aload_n 0, 1) := by decide +kernel
theorem d_K_insert_27 : decode m_K_insert.2.1 27 = .ok (.getfield 15, 3) := by decide +kernel
theorem d_K_insert_30 : decode m_K_insert.2.1 30 = .ok (.iload_n 3, 1) := by decide +kernel
theorem d_K_insert_31 : decode m_K_insert.2.1 31 = .ok (.iconst 1, 1) := by decide +kernel
theorem d_K_insert_32 : decode m_K_insert.2.1 32 = .ok (.isub, 1) := by decide +kernel
theorem d_K_insert_33 : decode m_K_insert.2.1 33 = .ok (.iaload, 1) := by decide +kernel
theorem d_K_insert_34 : decode m_K_insert.2.1 34 = .ok (.iload_n 2, 1) := by decide +kernel
theorem d_K_insert_35 : decode m_K_insert.2.1 35 = .ok (.if_icmp .le 37, 3) := by decide +kernel
theorem d_K_insert_38 : decode m_K_insert.2.1 38 = .ok (.aload_n 0, 1) := by decide +kernel
theorem d_K_insert_39 : decode m_K_insert.2.1 39 = .ok (.getfield 9, 3) := by decide +kernel
theorem d_K_insert_42 : decode m_K_insert.2.1 42 = .ok (.iload_n 3, 1) := by decide +kernel
theorem d_K_insert_43 : decode m_K_insert.2.1 43 = .ok (.aload_n 0, 1) := by decide +kernel
theorem d_K_insert_44 : decode m_K_insert.2.1 44 = .ok (.getfield 9, 3) := by decide +kernel
theorem d_K_insert_47 : decode m_K_insert.2.1 47 = .ok (.iload_n 3, 1) := by decide +kernel
theorem d_K_insert_48 : decode m_K_insert.2.1 48 = .ok (.iconst 1, 1) := by decide +kernel
theorem d_K_insert_49 : decode m_K_insert.2.1 49 = .ok (.isub, 1) := by decide +kernel
theorem d_K_insert_50 : decode m_K_insert.2.1 50 = .ok (.iaload, 1) := by decide +kernel
theorem d_K_insert_51 : decode m_K_insert.2.1 51 = .ok (.iastore, 1) := by decide +kernel
theorem d_K_insert_52 : decode m_K_insert.2.1 52 = .ok (.aload_n 0, 1) := by decide +kernel
theorem d_K_insert_53 : decode m_K_insert.2.1 53 = .ok (.getfield 15, 3) := by decide +kernel
theorem d_K_insert_56 : decode m_K_insert.2.1 56 = .ok (.iload_n 3, 1) := by decide +kernel
theorem d_K_insert_57 : decode m_K_insert.2.1 57 = .ok (.aload_n 0, 1) := by decide +kernel
theorem d_K_insert_58 : decode m_K_insert.2.1 58 = .ok (.getfield 15, 3) := by decide +kernel
theorem d_K_insert_61 : decode m_K_insert.2.1 61 = .ok (.iload_n 3, 1) := by decide +kernel
theorem d_K_insert_62 : decode m_K_insert.2.1 62 = .ok (.iconst 1, 1) := by decide +kernel
theorem d_K_insert_63 : decode m_K_insert.2.1 63 = .ok (.isub, 1) := by decide +kernel
theorem d_K_insert_64 : decode m_K_insert.2.1 64 = .ok (.iaload, 1) := by decide +kernel
theorem d_K_insert_65 : decode m_K_insert.2.1 65 = .ok (.iastore, 1) := by decide +kernel
theorem d_K_insert_66 : decode m_K_insert.2.1 66 = .ok (.iinc 3 (-1), 3) := by decide +kernel
theorem d_K_insert_69 : decode m_K_insert.2.1 69 = .ok (.goto (-47), 3) := by decide +kernel
theorem d_K_insert_72 : decode m_K_insert.2.1 72 = .ok (.aload_n 0, 1) := by decide +kernel
theorem d_K_insert_73 : decode m_K_insert.2.1 73 = .ok (.getfield 9, 3) := by decide +kernel
theorem d_K_insert_76 : decode m_K_insert.2.1 76 = .ok (.iload_n 3, 1) := by decide +kernel
theorem d_K_insert_77 : decode m_K_insert.2.1 77 = .ok (.iload_n 1, 1) := by decide +kernel
theorem d_K_insert_78 : decode m_K_insert.2.1 78 = .ok (.iastore, 1) := by decide +kernel
theorem d_K_insert_79 : decode m_K_insert.2.1 79 = .ok (.aload_n 0, 1) := by decide +kernel
theorem d_K_insert_80 : decode m_K_insert.2.1 80 = .ok (.getfield 15, 3) := by decide +kernel
theorem d_K_insert_83 : decode m_K_insert.2.1 83 = .ok (.iload_n 3, 1) := by decide +kernel
theorem d_K_insert_84 : decode m_K_insert.2.1 84 = .ok (.iload_n 2, 1) := by decide +kernel
theorem d_K_insert_85 : decode m_K_insert.2.1 85 = .ok (.iastore, 1) := by decide +kernel
theorem d_K_insert_86 : decode m_K_insert.2.1 86 = .ok (.aload_n 0, 1) := by decide +kernel
theorem d_K_insert_87 : decode m_K_insert.2.1 87 = .ok (.dup, 1) := by decide +kernel
theorem d_K_insert_88 : decode m_K_insert.2.1 88 = .ok (.getfield 18, 3) := by decide +kernel
theorem d_K_insert_91 : decode m_K_insert.2.1 91 = .ok (.iconst 1, 1) := by decide +kernel
theorem d_K_insert_92 : decode m_K_insert.2.1 92 = .ok (.iadd, 1) := by decide +kernel
theorem d_K_insert_93 : decode m_K_insert.2.1 93 = .ok (.putfield 18, 3) := by decide +kernel
theorem d_K_insert_96 : decode m_K_insert.2.1 96 = .ok (.return_, 1) := by decide +kernel
theorem d_E_zoneOf_0 : decode m_E_zoneOf.2.1 0 = .ok (.iconst 0, 1) := by decide +kernel
theorem d_E_zoneOf_1 : decode m_E_zoneOf.2.1 1 = .ok (.istore_n 2, 1) := by decide +kernel
theorem d_E_zoneOf_2 : decode m_E_zoneOf.2.1 2 = .ok (.iload_n 2, 1) := by decide +kernel
theorem d_E_zoneOf_3 : decode m_E_zoneOf.2.1 3 = .ok (.aload_n 0, 1) := by decide +kernel
theorem d_E_zoneOf_4 : decode m_E_zoneOf.2.1 4 = .ok (.getfield 31, 3) := by decide +kernel
theorem d_E_zoneOf_7 : decode m_E_zoneOf.2.1 7 = .ok (.if_icmp .ge 41, 3) := by decide +kernel
theorem d_E_zoneOf_10 : decode m_E_zoneOf.2.1 10 = .ok (.iload_n 2, 1) := by decide +kernel
theorem d_E_zoneOf_11 : decode m_E_zoneOf.2.1 11 = .ok (.bipush 8, 2) := by decide +kernel
theorem d_E_zoneOf_13 : decode m_E_zoneOf.2.1 13 = .ok (.if_icmp .ge 35, 3) := by decide +kernel
theorem d_E_zoneOf_16 : decode m_E_zoneOf.2.1 16 = .ok (.iload_n 1, 1) := by decide +kernel
theorem d_E_zoneOf_17 : decode m_E_zoneOf.2.1 17 = .ok (.aload_n 0, 1) := by decide +kernel
theorem d_E_zoneOf_18 : decode m_E_zoneOf.2.1 18 = .ok (.getfield 17, 3) := by decide +kernel
theorem d_E_zoneOf_21 : decode m_E_zoneOf.2.1 21 = .ok (.iload_n 2, 1) := by decide +kernel
theorem d_E_zoneOf_22 : decode m_E_zoneOf.2.1 22 = .ok (.iaload, 1) := by decide +kernel
theorem d_E_zoneOf_23 : decode m_E_zoneOf.2.1 23 = .ok (.aload_n 0, 1) := by decide +kernel
theorem d_E_zoneOf_24 : decode m_E_zoneOf.2.1 24 = .ok (.getfield 21, 3) := by decide +kernel
theorem d_E_zoneOf_27 : decode m_E_zoneOf.2.1 27 = .ok (.iload_n 2, 1) := by decide +kernel
theorem d_E_zoneOf_28 : decode m_E_zoneOf.2.1 28 = .ok (.iaload, 1) := by decide +kernel
theorem d_E_zoneOf_29 : decode m_E_zoneOf.2.1 29 = .ok (.invokestatic 41, 3) := by decide +kernel
theorem d_E_zoneOf_32 : decode m_E_zoneOf.2.1 32 = .ok (.ifCond .eq 10, 3) := by decide +kernel
theorem d_E_zoneOf_35 : decode m_E_zoneOf.2.1 35 = .ok (.aload_n 0, 1) := by decide +kernel
theorem d_E_zoneOf_36 : decode m_E_zoneOf.2.1 36 = .ok (.getfield 24, 3) := by decide +kernel
theorem d_E_zoneOf_39 : decode m_E_zoneOf.2.1 39 = .ok (.iload_n 2, 1) := by decide +kernel
theorem d_E_zoneOf_40 : decode m_E_zoneOf.2.1 40 = .ok (.iaload, 1) := by decide +kernel
theorem d_E_zoneOf_41 : decode m_E_zoneOf.2.1 41 = .ok (.ireturn, 1) := by decide +kernel
theorem d_E_zoneOf_42 : decode m_E_zoneOf.2.1 42 = .ok (.iinc 2 1, 3) := by decide +kernel
theorem d_E_zoneOf_45 : decode m_E_zoneOf.2.1 45 = .ok (.goto (-43), 3) := by decide +kernel
theorem d_E_zoneOf_48 : decode m_E_zoneOf.2.1 48 = .ok (.iconst 0, 1) := by decide +kernel
theorem d_E_zoneOf_49 : decode m_E_zoneOf.2.1 49 = .ok (.ireturn, 1) := by decide +kernel
theorem d_S_picksUpIn_0 : decode m_S_picksUpIn.2.1 0 = .ok (.iload_n 1, 1) := by decide +kernel
theorem d_S_picksUpIn_1 : decode m_S_picksUpIn.2.1 1 = .ok (.aload_n 0, 1) := by decide +kernel
theorem d_S_picksUpIn_2 : decode m_S_picksUpIn.2.1 2 = .ok (.getfield 44, 3) := by decide +kernel
theorem d_S_picksUpIn_5 : decode m_S_picksUpIn.2.1 5 = .ok (.if_icmp .lt 15, 3) := by decide +kernel
theorem d_S_picksUpIn_8 : decode m_S_picksUpIn.2.1 8 = .ok (.iload_n 1, 1) := by decide +kernel
theorem d_S_picksUpIn_9 : decode m_S_picksUpIn.2.1 9 = .ok (.aload_n 0, 1) := by decide +kernel
theorem d_S_picksUpIn_10 : decode m_S_picksUpIn.2.1 10 = .ok (.getfield 41, 3) := by decide +kernel
theorem d_S_picksUpIn_13 : decode m_S_picksUpIn.2.1 13 = .ok (.if_icmp .ge 7, 3) := by decide +kernel
theorem d_S_picksUpIn_16 : decode m_S_picksUpIn.2.1 16 = .ok (.iconst 1, 1) := by decide +kernel
theorem d_S_picksUpIn_17 : decode m_S_picksUpIn.2.1 17 = .ok (.goto 4, 3) := by decide +kernel
theorem d_S_picksUpIn_20 : decode m_S_picksUpIn.2.1 20 = .ok (.iconst 0, 1) := by decide +kernel
theorem d_S_picksUpIn_21 : decode m_S_picksUpIn.2.1 21 = .ok (.ireturn, 1) := by decide +kernel
theorem d_G_appendNumber_0 : decode m_G_appendNumber.2.1 0 = .ok (.iconst 4, 1) := by decide +kernel
theorem d_G_appendNumber_1 : decode m_G_appendNumber.2.1 1 = .ok (.istore_n 3, 1) := by decide +kernel
theorem d_G_appendNumber_2 : decode m_G_appendNumber.2.1 2 = .ok (.sipush 1000, 3) := by decide +kernel
theorem d_G_appendNumber_5 : decode m_G_appendNumber.2.1 5 = .ok (.istore 4, 2) := by decide +kernel
theorem d_G_appendNumber_7 : decode m_G_appendNumber.2.1 7 = .ok (.iload 4, 2) := by decide +kernel
theorem d_G_appendNumber_9 : decode m_G_appendNumber.2.1 9 = .ok (.ifCond .le 42, 3) := by decide +kernel
theorem d_G_appendNumber_12 : decode m_G_appendNumber.2.1 12 = .ok (.iload_n 1, 1) := by decide +kernel
theorem d_G_appendNumber_13 : decode m_G_appendNumber.2.1 13 = .ok (.iload 4, 2) := by decide +kernel
theorem d_G_appendNumber_15 : decode m_G_appendNumber.2.1 15 = .ok (.if_icmp .ge 8, 3) := by decide +kernel
theorem d_G_appendNumber_18 : decode m_G_appendNumber.2.1 18 = .ok (.iload_n 3, 1) := by decide +kernel
theorem d_G_appendNumber_19 : decode m_G_appendNumber.2.1 19 = .ok (.iload_n 2, 1) := by decide +kernel
theorem d_G_appendNumber_20 : decode m_G_appendNumber.2.1 20 = .ok (.if_icmp .gt 18, 3) := by decide +kernel
theorem d_G_appendNumber_23 : decode m_G_appendNumber.2.1 23 = .ok (.aload_n 0, 1) := by decide +kernel
theorem d_G_appendNumber_24 : decode m_G_appendNumber.2.1 24 = .ok (.bipush 48, 2) := by decide +kernel
theorem d_G_appendNumber_26 : decode m_G_appendNumber.2.1 26 = .ok (.iload_n 1, 1) := by decide +kernel
theorem d_G_appendNumber_27 : decode m_G_appendNumber.2.1 27 = .ok (.iload 4, 2) := by decide +kernel
theorem d_G_appendNumber_29 : decode m_G_appendNumber.2.1 29 = .ok (.idiv, 1) := by decide +kernel
theorem d_G_appendNumber_30 : decode m_G_appendNumber.2.1 30 = .ok (.bipush 10, 2) := by decide +kernel
theorem d_G_appendNumber_32 : decode m_G_appendNumber.2.1 32 = .ok (.irem, 1) := by decide +kernel
theorem d_G_appendNumber_33 : decode m_G_appendNumber.2.1 33 = .ok (.iadd, 1) := by decide +kernel
theorem d_G_appendNumber_34 : decode m_G_appendNumber.2.1 34 = .ok (.invokevirtual 17, 3) := by decide +kernel
theorem d_G_appendNumber_37 : decode m_G_appendNumber.2.1 37 = .ok (.pop, 1) := by decide +kernel
theorem d_G_appendNumber_38 : decode m_G_appendNumber.2.1 38 = .ok (.iinc 3 (-1), 3) := by decide +kernel
theorem d_G_appendNumber_41 : decode m_G_appendNumber.2.1 41 = .ok (.iload 4, 2) := by decide +kernel
theorem d_G_appendNumber_43 : decode m_G_appendNumber.2.1 43 = .ok (.bipush 10, 2) := by decide +kernel
theorem d_G_appendNumber_45 : decode m_G_appendNumber.2.1 45 = .ok (.idiv, 1) := by decide +kernel
theorem d_G_appendNumber_46 : decode m_G_appendNumber.2.1 46 = .ok (.istore 4, 2) := by decide +kernel
theorem d_G_appendNumber_48 : decode m_G_appendNumber.2.1 48 = .ok (.goto (-41), 3) := by decide +kernel
theorem d_G_appendNumber_51 : decode m_G_appendNumber.2.1 51 = .ok (.return_, 1) := by decide +kernel
theorem d_S_writeLine_0 : decode m_S_writeLine.2.1 0 = .ok (.aload_n 1, 1) := by decide +kernel
theorem d_S_writeLine_1 : decode m_S_writeLine.2.1 1 = .ok (.aload_n 0, 1) := by decide +kernel
theorem d_S_writeLine_2 : decode m_S_writeLine.2.1 2 = .ok (.getfield 7, 3) := by decide +kernel
theorem d_S_writeLine_5 : decode m_S_writeLine.2.1 5 = .ok (.invokevirtual 47, 3) := by decide +kernel
theorem d_S_writeLine_8 : decode m_S_writeLine.2.1 8 = .ok (.pop, 1) := by decide +kernel
theorem d_S_writeLine_9 : decode m_S_writeLine.2.1 9 = .ok (.aload_n 1, 1) := by decide +kernel
theorem d_S_writeLine_10 : decode m_S_writeLine.2.1 10 = .ok (.bipush 58, 2) := by decide +kernel
theorem d_S_writeLine_12 : decode m_S_writeLine.2.1 12 = .ok (.invokevirtual 47, 3) := by decide +kernel
theorem d_S_writeLine_15 : decode m_S_writeLine.2.1 15 = .ok (.pop, 1) := by decide +kernel
theorem d_S_writeLine_16 : decode m_S_writeLine.2.1 16 = .ok (.aload_n 1, 1) := by decide +kernel
theorem d_S_writeLine_17 : decode m_S_writeLine.2.1 17 = .ok (.aload_n 0, 1) := by decide +kernel
theorem d_S_writeLine_18 : decode m_S_writeLine.2.1 18 = .ok (.getfield 13, 3) := by decide +kernel
theorem d_S_writeLine_21 : decode m_S_writeLine.2.1 21 = .ok (.invokevirtual 52, 3) := by decide +kernel
theorem d_S_writeLine_24 : decode m_S_writeLine.2.1 24 = .ok (.aload_n 1, 1) := by decide +kernel
theorem d_S_writeLine_25 : decode m_S_writeLine.2.1 25 = .ok (.bipush 58, 2) := by decide +kernel
theorem d_S_writeLine_27 : decode m_S_writeLine.2.1 27 = .ok (.invokevirtual 47, 3) := by decide +kernel
theorem d_S_writeLine_30 : decode m_S_writeLine.2.1 30 = .ok (.pop, 1) := by decide +kernel
theorem d_S_writeLine_31 : decode m_S_writeLine.2.1 31 = .ok (.aload_n 1, 1) := by decide +kernel
theorem d_S_writeLine_32 : decode m_S_writeLine.2.1 32 = .ok (.aload_n 0, 1) := by decide +kernel
theorem d_S_writeLine_33 : decode m_S_writeLine.2.1 33 = .ok (.getfield 22, 3) := by decide +kernel
theorem d_S_writeLine_36 : decode m_S_writeLine.2.1 36 = .ok (.iconst 1, 1) := by decide +kernel
theorem d_S_writeLine_37 : decode m_S_writeLine.2.1 37 = .ok (.invokevirtual 56, 3) := by decide +kernel
theorem d_S_writeLine_40 : decode m_S_writeLine.2.1 40 = .ok (.aload_n 1, 1) := by decide +kernel
theorem d_S_writeLine_41 : decode m_S_writeLine.2.1 41 = .ok (.bipush 58, 2) := by decide +kernel
theorem d_S_writeLine_43 : decode m_S_writeLine.2.1 43 = .ok (.invokevirtual 47, 3) := by decide +kernel
theorem d_S_writeLine_46 : decode m_S_writeLine.2.1 46 = .ok (.pop, 1) := by decide +kernel
theorem d_S_writeLine_47 : decode m_S_writeLine.2.1 47 = .ok (.aload_n 1, 1) := by decide +kernel
theorem d_S_writeLine_48 : decode m_S_writeLine.2.1 48 = .ok (.aload_n 0, 1) := by decide +kernel
theorem d_S_writeLine_49 : decode m_S_writeLine.2.1 49 = .ok (.getfield 25, 3) := by decide +kernel
theorem d_S_writeLine_52 : decode m_S_writeLine.2.1 52 = .ok (.iconst 1, 1) := by decide +kernel
theorem d_S_writeLine_53 : decode m_S_writeLine.2.1 53 = .ok (.invokevirtual 56, 3) := by decide +kernel
theorem d_S_writeLine_56 : decode m_S_writeLine.2.1 56 = .ok (.aload_n 1, 1) := by decide +kernel
theorem d_S_writeLine_57 : decode m_S_writeLine.2.1 57 = .ok (.bipush 58, 2) := by decide +kernel
theorem d_S_writeLine_59 : decode m_S_writeLine.2.1 59 = .ok (.invokevirtual 47, 3) := by decide +kernel
theorem d_S_writeLine_62 : decode m_S_writeLine.2.1 62 = .ok (.pop, 1) := by decide +kernel
theorem d_S_writeLine_63 : decode m_S_writeLine.2.1 63 = .ok (.aload_n 1, 1) := by decide +kernel
theorem d_S_writeLine_64 : decode m_S_writeLine.2.1 64 = .ok (.aload_n 0, 1) := by decide +kernel
theorem d_S_writeLine_65 : decode m_S_writeLine.2.1 65 = .ok (.getfield 32, 3) := by decide +kernel
theorem d_S_writeLine_68 : decode m_S_writeLine.2.1 68 = .ok (.invokevirtual 52, 3) := by decide +kernel
theorem d_S_writeLine_71 : decode m_S_writeLine.2.1 71 = .ok (.aload_n 1, 1) := by decide +kernel
theorem d_S_writeLine_72 : decode m_S_writeLine.2.1 72 = .ok (.bipush 58, 2) := by decide +kernel
theorem d_S_writeLine_74 : decode m_S_writeLine.2.1 74 = .ok (.invokevirtual 47, 3) := by decide +kernel
theorem d_S_writeLine_77 : decode m_S_writeLine.2.1 77 = .ok (.pop, 1) := by decide +kernel
theorem d_S_writeLine_78 : decode m_S_writeLine.2.1 78 = .ok (.aload_n 1, 1) := by decide +kernel
theorem d_S_writeLine_79 : decode m_S_writeLine.2.1 79 = .ok (.aload_n 0, 1) := by decide +kernel
theorem d_S_writeLine_80 : decode m_S_writeLine.2.1 80 = .ok (.getfield 35, 3) := by decide +kernel
theorem d_S_writeLine_83 : decode m_S_writeLine.2.1 83 = .ok (.iconst 1, 1) := by decide +kernel
theorem d_S_writeLine_84 : decode m_S_writeLine.2.1 84 = .ok (.invokevirtual 56, 3) := by decide +kernel
theorem d_S_writeLine_87 : decode m_S_writeLine.2.1 87 = .ok (.aload_n 1, 1) := by decide +kernel
theorem d_S_writeLine_88 : decode m_S_writeLine.2.1 88 = .ok (.bipush 43, 2) := by decide +kernel
theorem d_S_writeLine_90 : decode m_S_writeLine.2.1 90 = .ok (.invokevirtual 47, 3) := by decide +kernel
theorem d_S_writeLine_93 : decode m_S_writeLine.2.1 93 = .ok (.pop, 1) := by decide +kernel
theorem d_S_writeLine_94 : decode m_S_writeLine.2.1 94 = .ok (.aload_n 1, 1) := by decide +kernel
theorem d_S_writeLine_95 : decode m_S_writeLine.2.1 95 = .ok (.aload_n 0, 1) := by decide +kernel
theorem d_S_writeLine_96 : decode m_S_writeLine.2.1 96 = .ok (.getfield 38, 3) := by decide +kernel
theorem d_S_writeLine_99 : decode m_S_writeLine.2.1 99 = .ok (.iconst 1, 1) := by decide +kernel
theorem d_S_writeLine_100 : decode m_S_writeLine.2.1 100 = .ok (.invokevirtual 56, 3) := by decide +kernel
theorem d_S_writeLine_103 : decode m_S_writeLine.2.1 103 = .ok (.return_, 1) := by decide +kernel
theorem d_G_appendDigitSet_0 : decode m_G_appendDigitSet.2.1 0 = .ok (.iconst 1, 1) := by decide +kernel
theorem d_G_appendDigitSet_1 : decode m_G_appendDigitSet.2.1 1 = .ok (.istore_n 2, 1) := by decide +kernel
theorem d_G_appendDigitSet_2 : decode m_G_appendDigitSet.2.1 2 = .ok (.iload_n 2, 1) := by decide +kernel
theorem d_G_appendDigitSet_3 : decode m_G_appendDigitSet.2.1 3 = .ok (.bipush 9, 2) := by decide +kernel
theorem d_G_appendDigitSet_5 : decode m_G_appendDigitSet.2.1 5 = .ok (.if_icmp .gt 26, 3) := by decide +kernel
theorem d_G_appendDigitSet_8 : decode m_G_appendDigitSet.2.1 8 = .ok (.iload_n 1, 1) := by decide +kernel
theorem d_G_appendDigitSet_9 : decode m_G_appendDigitSet.2.1 9 = .ok (.iload_n 2, 1) := by decide +kernel
theorem d_G_appendDigitSet_10 : decode m_G_appendDigitSet.2.1 10 = .ok (.invokestatic 21, 3) := by decide +kernel
theorem d_G_appendDigitSet_13 : decode m_G_appendDigitSet.2.1 13 = .ok (.ifCond .eq 12, 3) := by decide +kernel
theorem d_G_appendDigitSet_16 : decode m_G_appendDigitSet.2.1 16 = .ok (.aload_n 0, 1) := by decide +kernel
theorem d_G_appendDigitSet_17 : decode m_G_appendDigitSet.2.1 17 = .ok (.bipush 48, 2) := by decide +kernel
theorem d_G_appendDigitSet_19 : decode m_G_appendDigitSet.2.1 19 = .ok (.iload_n 2, 1) := by decide +kernel
theorem d_G_appendDigitSet_20 : decode m_G_appendDigitSet.2.1 20 = .ok (.iadd, 1) := by decide +kernel
theorem d_G_appendDigitSet_21 : decode m_G_appendDigitSet.2.1 21 = .ok (.invokevirtual 17, 3) := by decide +kernel
theorem d_G_appendDigitSet_24 : decode m_G_appendDigitSet.2.1 24 = .ok (.pop, 1) := by decide +kernel
theorem d_G_appendDigitSet_25 : decode m_G_appendDigitSet.2.1 25 = .ok (.iinc 2 1, 3) := by decide +kernel
theorem d_G_appendDigitSet_28 : decode m_G_appendDigitSet.2.1 28 = .ok (.goto (-26), 3) := by decide +kernel
theorem d_G_appendDigitSet_31 : decode m_G_appendDigitSet.2.1 31 = .ok (.return_, 1) := by decide +kernel
theorem d_E_servicesWithHours_0 : decode m_E_servicesWithHours.2.1 0 = .ok (.iconst 0, 1) := by decide +kernel
theorem d_E_servicesWithHours_1 : decode m_E_servicesWithHours.2.1 1 = .ok (.istore_n 1, 1) := by decide +kernel
theorem d_E_servicesWithHours_2 : decode m_E_servicesWithHours.2.1 2 = .ok (.iconst 0, 1) := by decide +kernel
theorem d_E_servicesWithHours_3 : decode m_E_servicesWithHours.2.1 3 = .ok (.istore_n 2, 1) := by decide +kernel
theorem d_E_servicesWithHours_4 : decode m_E_servicesWithHours.2.1 4 = .ok (.iload_n 2, 1) := by decide +kernel
theorem d_E_servicesWithHours_5 : decode m_E_servicesWithHours.2.1 5 = .ok (.aload_n 0, 1) := by decide +kernel
theorem d_E_servicesWithHours_6 : decode m_E_servicesWithHours.2.1 6 = .ok (.getfield 27, 3) := by decide +kernel
theorem d_E_servicesWithHours_9 : decode m_E_servicesWithHours.2.1 9 = .ok (.if_icmp .ge 29, 3) := by decide +kernel
theorem d_E_servicesWithHours_12 : decode m_E_servicesWithHours.2.1 12 = .ok (.aload_n 0, 1) := by decide +kernel
theorem d_E_servicesWithHours_13 : decode m_E_servicesWithHours.2.1 13 = .ok (.iload_n 2, 1) := by decide +kernel
theorem d_E_servicesWithHours_14 : decode m_E_servicesWithHours.2.1 14 = .ok (.invokevirtual 34, 3) := by decide +kernel
theorem d_E_servicesWithHours_17 : decode m_E_servicesWithHours.2.1 17 = .ok (.astore_n 3, 1) := by decide +kernel
theorem d_E_servicesWithHours_18 : decode m_E_servicesWithHours.2.1 18 = .ok (.aload_n 3, 1) := by decide +kernel
theorem d_E_servicesWithHours_19 : decode m_E_servicesWithHours.2.1 19 = .ok (.ifnull 13, 3) := by decide +kernel
theorem d_E_servicesWithHours_22 : decode m_E_servicesWithHours.2.1 22 = .ok (.aload_n 3, 1) := by decide +kernel
theorem d_E_servicesWithHours_23 : decode m_E_servicesWithHours.2.1 23 = .ok (.invokevirtual 45, 3) := by decide +kernel
theorem d_E_servicesWithHours_26 : decode m_E_servicesWithHours.2.1 26 = .ok (.ifCond .eq 6, 3) := by decide +kernel
theorem d_E_servicesWithHours_29 : decode m_E_servicesWithHours.2.1 29 = .ok (.iinc 1 1, 3) := by decide +kernel
theorem d_E_servicesWithHours_32 : decode m_E_servicesWithHours.2.1 32 = .ok (.iinc 2 1, 3) := by decide +kernel
theorem d_E_servicesWithHours_35 : decode m_E_servicesWithHours.2.1 35 = .ok (.goto (-31), 3) := by decide +kernel
theorem d_E_servicesWithHours_38 : decode m_E_servicesWithHours.2.1 38 = .ok (.iload_n 1, 1) := by decide +kernel
theorem d_E_servicesWithHours_39 : decode m_E_servicesWithHours.2.1 39 = .ok (.ireturn, 1) := by decide +kernel
