theorem d_T_init_0 : decode m_T_init.2.1 0 = .ok (.aload_n 0, 1) := by decide +kernel
theorem d_T_init_1 : decode m_T_init.2.1 1 = .ok (.invokespecial 1, 3) := by decide +kernel
theorem d_T_init_4 : decode m_T_init.2.1 4 = .ok (.aload_n 0, 1) := by decide +kernel
theorem d_T_init_5 : decode m_T_init.2.1 5 = .ok (.new 7, 3) := by decide +kernel
theorem d_T_init_8 : decode m_T_init.2.1 8 = .ok (.dup, 1) := by decide +kernel
theorem d_T_init_9 : decode m_T_init.2.1 9 = .ok (.sipush 500, 3) := by decide +kernel
theorem d_T_init_12 : decode m_T_init.2.1 12 = .ok (.invokespecial 11, 3) := by decide +kernel
theorem d_T_init_15 : decode m_T_init.2.1 15 = .ok (.putfield 14, 3) := by decide +kernel
theorem d_T_init_18 : decode m_T_init.2.1 18 = .ok (.aload_n 0, 1) := by decide +kernel
theorem d_T_init_19 : decode m_T_init.2.1 19 = .ok (.new 7, 3) := by decide +kernel
theorem d_T_init_22 : decode m_T_init.2.1 22 = .ok (.dup, 1) := by decide +kernel
theorem d_T_init_23 : decode m_T_init.2.1 23 = .ok (.bipush 20, 2) := by decide +kernel
theorem d_T_init_25 : decode m_T_init.2.1 25 = .ok (.invokespecial 11, 3) := by decide +kernel
theorem d_T_init_28 : decode m_T_init.2.1 28 = .ok (.putfield 18, 3) := by decide +kernel
theorem d_T_init_31 : decode m_T_init.2.1 31 = .ok (.aload_n 0, 1) := by decide +kernel
theorem d_T_init_32 : decode m_T_init.2.1 32 = .ok (.new 7, 3) := by decide +kernel
theorem d_T_init_35 : decode m_T_init.2.1 35 = .ok (.dup, 1) := by decide +kernel
theorem d_T_init_36 : decode m_T_init.2.1 36 = .ok (.bipush 37, 2) := by decide +kernel
theorem d_T_init_38 : decode m_T_init.2.1 38 = .ok (.invokespecial 11, 3) := by decide +kernel
theorem d_T_init_41 : decode m_T_init.2.1 41 = .ok (.putfield 21, 3) := by decide +kernel
theorem d_T_init_44 : decode m_T_init.2.1 44 = .ok (.aload_n 0, 1) := by decide +kernel
theorem d_T_init_45 : decode m_T_init.2.1 45 = .ok (.new 24, 3) := by decide +kernel
theorem d_T_init_48 : decode m_T_init.2.1 48 = .ok (.dup, 1) := by decide +kernel
theorem d_T_init_49 : decode m_T_init.2.1 49 = .ok (.aload_n 0, 1) := by decide +kernel
theorem d_T_init_50 : decode m_T_init.2.1 50 = .ok (.getfield 14, 3) := by decide +kernel
theorem d_T_init_53 : decode m_T_init.2.1 53 = .ok (.invokespecial 26, 3) := by decide +kernel
theorem d_T_init_56 : decode m_T_init.2.1 56 = .ok (.putfield 29, 3) := by decide +kernel
theorem d_T_init_59 : decode m_T_init.2.1 59 = .ok (.aload_n 0, 1) := by decide +kernel
theorem d_T_init_60 : decode m_T_init.2.1 60 = .ok (.new 33, 3) := by decide +kernel
theorem d_T_init_63 : decode m_T_init.2.1 63 = .ok (.dup, 1) := by decide +kernel
theorem d_T_init_64 : decode m_T_init.2.1 64 = .ok (.invokespecial 35, 3) := by decide +kernel
theorem d_T_init_67 : decode m_T_init.2.1 67 = .ok (.putfield 36, 3) := by decide +kernel
theorem d_T_init_70 : decode m_T_init.2.1 70 = .ok (.aload_n 0, 1) := by decide +kernel
theorem d_T_init_71 : decode m_T_init.2.1 71 = .ok (.iconst 4, 1) := by decide +kernel
theorem d_T_init_72 : decode m_T_init.2.1 72 = .ok (.anewarray 40, 3) := by decide +kernel
theorem d_T_init_75 : decode m_T_init.2.1 75 = .ok (.putfield 42, 3) := by decide +kernel
theorem d_T_init_78 : decode m_T_init.2.1 78 = .ok (.return_, 1) := by decide +kernel
theorem d_T_at_0 : decode m_T_at.2.1 0 = .ok (.aload_n 0, 1) := by decide +kernel
theorem d_T_at_1 : decode m_T_at.2.1 1 = .ok (.getfield 36, 3) := by decide +kernel
theorem d_T_at_4 : decode m_T_at.2.1 4 = .ok (.iload_n 1, 1) := by decide +kernel
theorem d_T_at_5 : decode m_T_at.2.1 5 = .ok (.invokevirtual 145, 3) := by decide +kernel
theorem d_T_at_8 : decode m_T_at.2.1 8 = .ok (.ireturn, 1) := by decide +kernel
theorem d_T_count_0 : decode m_T_count.2.1 0 = .ok (.iload_n 1, 1) := by decide +kernel
theorem d_T_count_1 : decode m_T_count.2.1 1 = .ok (.tableswitch 78 0 5 #[39, 44, 52, 60, 65, 70], 39) := by decide +kernel
theorem d_T_count_40 : decode m_T_count.2.1 40 = .ok (.aload_n 0, 1) := by decide +kernel
theorem d_T_count_41 : decode m_T_count.2.1 41 = .ok (.getfield 89, 3) := by decide +kernel
theorem d_T_count_44 : decode m_T_count.2.1 44 = .ok (.ireturn, 1) := by decide +kernel
theorem d_T_count_45 : decode m_T_count.2.1 45 = .ok (.aload_n 0, 1) := by decide +kernel
theorem d_T_count_46 : decode m_T_count.2.1 46 = .ok (.getfield 14, 3) := by decide +kernel
theorem d_T_count_49 : decode m_T_count.2.1 49 = .ok (.getfield 185, 3) := by decide +kernel
theorem d_T_count_52 : decode m_T_count.2.1 52 = .ok (.ireturn, 1) := by decide +kernel
theorem d_T_count_53 : decode m_T_count.2.1 53 = .ok (.aload_n 0, 1) := by decide +kernel
theorem d_T_count_54 : decode m_T_count.2.1 54 = .ok (.getfield 18, 3) := by decide +kernel
theorem d_T_count_57 : decode m_T_count.2.1 57 = .ok (.getfield 185, 3) := by decide +kernel
theorem d_T_count_60 : decode m_T_count.2.1 60 = .ok (.ireturn, 1) := by decide +kernel
theorem d_T_count_61 : decode m_T_count.2.1 61 = .ok (.aload_n 0, 1) := by decide +kernel
theorem d_T_count_62 : decode m_T_count.2.1 62 = .ok (.invokevirtual 106, 3) := by decide +kernel
theorem d_T_count_65 : decode m_T_count.2.1 65 = .ok (.ireturn, 1) := by decide +kernel
theorem d_T_count_66 : decode m_T_count.2.1 66 = .ok (.aload_n 0, 1) := by decide +kernel
theorem d_T_count_67 : decode m_T_count.2.1 67 = .ok (.getfield 102, 3) := by decide +kernel
theorem d_T_count_70 : decode m_T_count.2.1 70 = .ok (.ireturn, 1) := by decide +kernel
theorem d_T_count_71 : decode m_T_count.2.1 71 = .ok (.aload_n 0, 1) := by decide +kernel
theorem d_T_count_72 : decode m_T_count.2.1 72 = .ok (.getfield 21, 3) := by decide +kernel
theorem d_T_count_75 : decode m_T_count.2.1 75 = .ok (.getfield 185, 3) := by decide +kernel
theorem d_T_count_78 : decode m_T_count.2.1 78 = .ok (.ireturn, 1) := by decide +kernel
theorem d_T_count_79 : decode m_T_count.2.1 79 = .ok (.iconst (-1), 1) := by decide +kernel
theorem d_T_count_80 : decode m_T_count.2.1 80 = .ok (.ireturn, 1) := by decide +kernel
theorem d_T_actingNumber_0 : decode m_T_actingNumber.2.1 0 = .ok (.iconst 0, 1) := by decide +kernel
theorem d_T_actingNumber_1 : decode m_T_actingNumber.2.1 1 = .ok (.istore_n 1, 1) := by decide +kernel
theorem d_T_actingNumber_2 : decode m_T_actingNumber.2.1 2 = .ok (.iconst 0, 1) := by decide +kernel
theorem d_T_actingNumber_3 : decode m_T_actingNumber.2.1 3 = .ok (.istore_n 2, 1) := by decide +kernel
theorem d_T_actingNumber_4 : decode m_T_actingNumber.2.1 4 = .ok (.iconst 1, 1) := by decide +kernel
theorem d_T_actingNumber_5 : decode m_T_actingNumber.2.1 5 = .ok (.istore_n 3, 1) := by decide +kernel
theorem d_T_actingNumber_6 : decode m_T_actingNumber.2.1 6 = .ok (.iload_n 3, 1) := by decide +kernel
theorem d_T_actingNumber_7 : decode m_T_actingNumber.2.1 7 = .ok (.aload_n 0, 1) := by decide +kernel
theorem d_T_actingNumber_8 : decode m_T_actingNumber.2.1 8 = .ok (.getfield 89, 3) := by decide +kernel
theorem d_T_actingNumber_11 : decode m_T_actingNumber.2.1 11 = .ok (.if_icmp .gt 50, 3) := by decide +kernel
theorem d_T_actingNumber_14 : decode m_T_actingNumber.2.1 14 = .ok (.aload_n 0, 1) := by decide +kernel
theorem d_T_actingNumber_15 : decode m_T_actingNumber.2.1 15 = .ok (.iload_n 3, 1) := by decide +kernel
theorem d_T_actingNumber_16 : decode m_T_actingNumber.2.1 16 = .ok (.invokevirtual 217, 3) := by decide +kernel
theorem d_T_actingNumber_19 : decode m_T_actingNumber.2.1 19 = .ok (.astore 4, 2) := by decide +kernel
theorem d_T_actingNumber_21 : decode m_T_actingNumber.2.1 21 = .ok (.aload 4, 2) := by decide +kernel
theorem d_T_actingNumber_23 : decode m_T_actingNumber.2.1 23 = .ok (.ifnull 32, 3) := by decide +kernel
theorem d_T_actingNumber_26 : decode m_T_actingNumber.2.1 26 = .ok (.aload 4, 2) := by decide +kernel
theorem d_T_actingNumber_28 : decode m_T_actingNumber.2.1 28 = .ok (.getfield 206, 3) := by decide +kernel
theorem d_T_actingNumber_31 : decode m_T_actingNumber.2.1 31 = .ok (.aload_n 0, 1) := by decide +kernel
theorem d_T_actingNumber_32 : decode m_T_actingNumber.2.1 32 = .ok (.getfield 102, 3) := by decide +kernel
theorem d_T_actingNumber_35 : decode m_T_actingNumber.2.1 35 = .ok (.if_icmp .gt 20, 3) := by decide +kernel
theorem d_T_actingNumber_38 : decode m_T_actingNumber.2.1 38 = .ok (.aload 4, 2) := by decide +kernel
theorem d_T_actingNumber_40 : decode m_T_actingNumber.2.1 40 = .ok (.getfield 206, 3) := by decide +kernel
theorem d_T_actingNumber_43 : decode m_T_actingNumber.2.1 43 = .ok (.iload_n 2, 1) := by decide +kernel
theorem d_T_actingNumber_44 : decode m_T_actingNumber.2.1 44 = .ok (.if_icmp .lt 11, 3) := by decide +kernel
theorem d_T_actingNumber_47 : decode m_T_actingNumber.2.1 47 = .ok (.iload_n 3, 1) := by decide +kernel
theorem d_T_actingNumber_48 : decode m_T_actingNumber.2.1 48 = .ok (.istore_n 1, 1) := by decide +kernel
theorem d_T_actingNumber_49 : decode m_T_actingNumber.2.1 49 = .ok (.aload 4, 2) := by decide +kernel
theorem d_T_actingNumber_51 : decode m_T_actingNumber.2.1 51 = .ok (.getfield 206, 3) := by decide +kernel
theorem d_T_actingNumber_54 : decode m_T_actingNumber.2.1 54 = .ok (.istore_n 2, 1) := by decide +kernel
theorem d_T_actingNumber_55 : decode m_T_actingNumber.2.1 55 = .ok (.iinc 3 1, 3) := by decide +kernel
theorem d_T_actingNumber_58 : decode m_T_actingNumber.2.1 58 = .ok (.goto (-52), 3) := by decide +kernel
theorem d_T_actingNumber_61 : decode m_T_actingNumber.2.1 61 = .ok (.iload_n 1, 1) := by decide +kernel
theorem d_T_actingNumber_62 : decode m_T_actingNumber.2.1 62 = .ok (.ireturn, 1) := by decide +kernel
theorem d_T_editionOrNull_0 : decode m_T_editionOrNull.2.1 0 = .ok (.iload_n 1, 1) := by decide +kernel
theorem d_T_editionOrNull_1 : decode m_T_editionOrNull.2.1 1 = .ok (.iconst 1, 1) := by decide +kernel
theorem d_T_editionOrNull_2 : decode m_T_editionOrNull.2.1 2 = .ok (.aload_n 0, 1) := by decide +kernel
theorem d_T_editionOrNull_3 : decode m_T_editionOrNull.2.1 3 = .ok (.getfield 42, 3) := by decide +kernel
theorem d_T_editionOrNull_6 : decode m_T_editionOrNull.2.1 6 = .ok (.arraylength, 1) := by decide +kernel
theorem d_T_editionOrNull_7 : decode m_T_editionOrNull.2.1 7 = .ok (.invokestatic 65, 3) := by decide +kernel
theorem d_T_editionOrNull_10 : decode m_T_editionOrNull.2.1 10 = .ok (.ifCond .eq 14, 3) := by decide +kernel
theorem d_T_editionOrNull_13 : decode m_T_editionOrNull.2.1 13 = .ok (.aload_n 0, 1) := by decide +kernel
theorem d_T_editionOrNull_14 : decode m_T_editionOrNull.2.1 14 = .ok (.getfield 42, 3) := by decide +kernel
theorem d_T_editionOrNull_17 : decode m_T_editionOrNull.2.1 17 = .ok (.iload_n 1, 1) := by decide +kernel
theorem d_T_editionOrNull_18 : decode m_T_editionOrNull.2.1 18 = .ok (.iconst 1, 1) := by decide +kernel
theorem d_T_editionOrNull_19 : decode m_T_editionOrNull.2.1 19 = .ok (.isub, 1) := by decide +kernel
theorem d_T_editionOrNull_20 : decode m_T_editionOrNull.2.1 20 = .ok (.aaload, 1) := by decide +kernel
theorem d_T_editionOrNull_21 : decode m_T_editionOrNull.2.1 21 = .ok (.goto 4, 3) := by decide +kernel
theorem d_T_editionOrNull_24 : decode m_T_editionOrNull.2.1 24 = .ok (.aconst_null, 1) := by decide +kernel
theorem d_T_editionOrNull_25 : decode m_T_editionOrNull.2.1 25 = .ok (.areturn, 1) := by decide +kernel
theorem d_T_isWithin_0 : decode m_T_isWithin.2.1 0 = .ok (.iload_n 0, 1) := by decide +kernel
theorem d_T_isWithin_1 : decode m_T_isWithin.2.1 1 = .ok (.iload_n 1, 1) := by decide +kernel
theorem d_T_isWithin_2 : decode m_T_isWithin.2.1 2 = .ok (.if_icmp .lt 12, 3) := by decide +kernel
theorem d_T_isWithin_5 : decode m_T_isWithin.2.1 5 = .ok (.iload_n 0, 1) := by decide +kernel
theorem d_T_isWithin_6 : decode m_T_isWithin.2.1 6 = .ok (.iload_n 2, 1) := by decide +kernel
theorem d_T_isWithin_7 : decode m_T_isWithin.2.1 7 = .ok (.if_icmp .gt 7, 3) := by decide +kernel
theorem d_T_isWithin_10 : decode m_T_isWithin.2.1 10 = .ok (.iconst 1, 1) := by decide +kernel
theorem d_T_isWithin_11 : decode m_T_isWithin.2.1 11 = .ok (.goto 4, 3) := by decide +kernel
theorem d_T_isWithin_14 : decode m_T_isWithin.2.1 14 = .ok (.iconst 0, 1) := by decide +kernel
theorem d_T_isWithin_15 : decode m_T_isWithin.2.1 15 = .ok (.ireturn, 1) := by decide +kernel
theorem d_T_sign_0 : decode m_T_sign.2.1 0 = .ok (.iload_n 1, 1) := by decide +kernel
theorem d_T_sign_1 : decode m_T_sign.2.1 1 = .ok (.bipush 10, 2) := by decide +kernel
theorem d_T_sign_3 : decode m_T_sign.2.1 3 = .ok (.if_icmp .eq 20, 3) := by decide +kernel
theorem d_T_sign_6 : decode m_T_sign.2.1 6 = .ok (.iload_n 1, 1) := by decide +kernel
theorem d_T_sign_7 : decode m_T_sign.2.1 7 = .ok (.invokestatic 46, 3) := by decide +kernel
theorem d_T_sign_10 : decode m_T_sign.2.1 10 = .ok (.ifCond .ne 13, 3) := by decide +kernel
theorem d_T_sign_13 : decode m_T_sign.2.1 13 = .ok (.new 50, 3) := by decide +kernel
theorem d_T_sign_16 : decode m_T_sign.2.1 16 = .ok (.dup, 1) := by decide +kernel
theorem d_T_sign_17 : decode m_T_sign.2.1 17 = .ok (.ldc 52, 2) := by decide +kernel
theorem d_T_sign_19 : decode m_T_sign.2.1 19 = .ok (.invokespecial 54, 3) := by decide +kernel
theorem d_T_sign_22 : decode m_T_sign.2.1 22 = .ok (.athrow, 1) := by decide +kernel
theorem d_T_sign_23 : decode m_T_sign.2.1 23 = .ok (.aload_n 0, 1) := by decide +kernel
theorem d_T_sign_24 : decode m_T_sign.2.1 24 = .ok (.getfield 14, 3) := by decide +kernel
theorem d_T_sign_27 : decode m_T_sign.2.1 27 = .ok (.iload_n 1, 1) := by decide +kernel
theorem d_T_sign_28 : decode m_T_sign.2.1 28 = .ok (.invokevirtual 57, 3) := by decide +kernel
theorem d_T_sign_31 : decode m_T_sign.2.1 31 = .ok (.ifCond .ne 13, 3) := by decide +kernel
theorem d_T_sign_34 : decode m_T_sign.2.1 34 = .ok (.new 60, 3) := by decide +kernel
theorem d_T_sign_37 : decode m_T_sign.2.1 37 = .ok (.dup, 1) := by decide +kernel
theorem d_T_sign_38 : decode m_T_sign.2.1 38 = .ok (.ldc 62, 2) := by decide +kernel
theorem d_T_sign_40 : decode m_T_sign.2.1 40 = .ok (.invokespecial 64, 3) := by decide +kernel
theorem d_T_sign_43 : decode m_T_sign.2.1 43 = .ok (.athrow, 1) := by decide +kernel
theorem d_T_sign_44 : decode m_T_sign.2.1 44 = .ok (.return_, 1) := by decide +kernel
theorem d_T_isPlain_0 : decode m_T_isPlain.2.1 0 = .ok (.iload_n 0, 1) := by decide +kernel
theorem d_T_isPlain_1 : decode m_T_isPlain.2.1 1 = .ok (.bipush 32, 2) := by decide +kernel
theorem d_T_isPlain_3 : decode m_T_isPlain.2.1 3 = .ok (.bipush 126, 2) := by decide +kernel
theorem d_T_isPlain_5 : decode m_T_isPlain.2.1 5 = .ok (.invokestatic 65, 3) := by decide +kernel
theorem d_T_isPlain_8 : decode m_T_isPlain.2.1 8 = .ok (.ireturn, 1) := by decide +kernel
theorem d_T_read_0 : decode m_T_read.2.1 0 = .ok (.iload_n 1, 1) := by decide +kernel
theorem d_T_read_1 : decode m_T_read.2.1 1 = .ok (.iconst 0, 1) := by decide +kernel
theorem d_T_read_2 : decode m_T_read.2.1 2 = .ok (.sipush 1000, 3) := by decide +kernel
theorem d_T_read_5 : decode m_T_read.2.1 5 = .ok (.invokestatic 65, 3) := by decide +kernel
theorem d_T_read_8 : decode m_T_read.2.1 8 = .ok (.ifCond .ne 13, 3) := by decide +kernel
theorem d_T_read_11 : decode m_T_read.2.1 11 = .ok (.new 50, 3) := by decide +kernel
theorem d_T_read_14 : decode m_T_read.2.1 14 = .ok (.dup, 1) := by decide +kernel
theorem d_T_read_15 : decode m_T_read.2.1 15 = .ok (.ldc 69, 2) := by decide +kernel
theorem d_T_read_17 : decode m_T_read.2.1 17 = .ok (.invokespecial 54, 3) := by decide +kernel
theorem d_T_read_20 : decode m_T_read.2.1 20 = .ok (.athrow, 1) := by decide +kernel
theorem d_T_read_21 : decode m_T_read.2.1 21 = .ok (.aload_n 0, 1) := by decide +kernel
theorem d_T_read_22 : decode m_T_read.2.1 22 = .ok (.getfield 29, 3) := by decide +kernel
theorem d_T_read_25 : decode m_T_read.2.1 25 = .ok (.invokevirtual 71, 3) := by decide +kernel
theorem d_T_read_28 : decode m_T_read.2.1 28 = .ok (.istore_n 2, 1) := by decide +kernel
theorem d_T_read_29 : decode m_T_read.2.1 29 = .ok (.aload_n 0, 1) := by decide +kernel
theorem d_T_read_30 : decode m_T_read.2.1 30 = .ok (.getfield 14, 3) := by decide +kernel
theorem d_T_read_33 : decode m_T_read.2.1 33 = .ok (.invokevirtual 75, 3) := by decide +kernel
theorem d_T_read_36 : decode m_T_read.2.1 36 = .ok (.iload_n 2, 1) := by decide +kernel
theorem d_T_read_37 : decode m_T_read.2.1 37 = .ok (.ifCond .ne 13, 3) := by decide +kernel
theorem d_T_read_40 : decode m_T_read.2.1 40 = .ok (.iconst (-1), 1) := by decide +kernel
theorem d_T_read_41 : decode m_T_read.2.1 41 = .ok (.aload_n 0, 1) := by decide +kernel
theorem d_T_read_42 : decode m_T_read.2.1 42 = .ok (.getfield 29, 3) := by decide +kernel
theorem d_T_read_45 : decode m_T_read.2.1 45 = .ok (.getfield 78, 3) := by decide +kernel
theorem d_T_read_48 : decode m_T_read.2.1 48 = .ok (.isub, 1) := by decide +kernel
theorem d_T_read_49 : decode m_T_read.2.1 49 = .ok (.ireturn, 1) := by decide +kernel
theorem d_T_read_50 : decode m_T_read.2.1 50 = .ok (.aload_n 0, 1) := by decide +kernel
theorem d_T_read_51 : decode m_T_read.2.1 51 = .ok (.getfield 29, 3) := by decide +kernel
theorem d_T_read_54 : decode m_T_read.2.1 54 = .ok (.getfield 82, 3) := by decide +kernel
theorem d_T_read_57 : decode m_T_read.2.1 57 = .ok (.invokevirtual 86, 3) := by decide +kernel
theorem d_T_read_60 : decode m_T_read.2.1 60 = .ok (.ifCond .ne 15, 3) := by decide +kernel
theorem d_T_read_63 : decode m_T_read.2.1 63 = .ok (.aload_n 0, 1) := by decide +kernel
theorem d_T_read_64 : decode m_T_read.2.1 64 = .ok (.getfield 89, 3) := by decide +kernel
theorem d_T_read_67 : decode m_T_read.2.1 67 = .ok (.aload_n 0, 1) := by decide +kernel
theorem d_T_read_68 : decode m_T_read.2.1 68 = .ok (.getfield 42, 3) := by decide +kernel
theorem d_T_read_71 : decode m_T_read.2.1 71 = .ok (.arraylength, 1) := by decide +kernel
theorem d_T_read_72 : decode m_T_read.2.1 72 = .ok (.if_icmp .lt 13, 3) := by decide +kernel
theorem d_T_read_75 : decode m_T_read.2.1 75 = .ok (.new 60, 3) := by decide +kernel
theorem d_T_read_78 : decode m_T_read.2.1 78 = .ok (.dup, 1) := by decide +kernel
theorem d_T_read_79 : decode m_T_read.2.1 79 = .ok (.ldc 92, 2) := by decide +kernel
theorem d_T_read_81 : decode m_T_read.2.1 81 = .ok (.invokespecial 64, 3) := by decide +kernel
theorem d_T_read_84 : decode m_T_read.2.1 84 = .ok (.athrow, 1) := by decide +kernel
theorem d_T_read_85 : decode m_T_read.2.1 85 = .ok (.aload_n 0, 1) := by decide +kernel
theorem d_T_read_86 : decode m_T_read.2.1 86 = .ok (.aload_n 0, 1) := by decide +kernel
theorem d_T_read_87 : decode m_T_read.2.1 87 = .ok (.getfield 29, 3) := by decide +kernel
theorem d_T_read_90 : decode m_T_read.2.1 90 = .ok (.invokevirtual 94, 3) := by decide +kernel
theorem d_T_read_93 : decode m_T_read.2.1 93 = .ok (.iload_n 1, 1) := by decide +kernel
theorem d_T_read_94 : decode m_T_read.2.1 94 = .ok (.invokevirtual 98, 3) := by decide +kernel
theorem d_T_read_97 : decode m_T_read.2.1 97 = .ok (.aload_n 0, 1) := by decide +kernel
theorem d_T_read_98 : decode m_T_read.2.1 98 = .ok (.getfield 89, 3) := by decide +kernel
theorem d_T_read_101 : decode m_T_read.2.1 101 = .ok (.ireturn, 1) := by decide +kernel
theorem d_T_isDigit_0 : decode m_T_isDigit.2.1 0 = .ok (.iload_n 0, 1) := by decide +kernel
theorem d_T_isDigit_1 : decode m_T_isDigit.2.1 1 = .ok (.bipush 48, 2) := by decide +kernel
theorem d_T_isDigit_3 : decode m_T_isDigit.2.1 3 = .ok (.bipush 57, 2) := by decide +kernel
theorem d_T_isDigit_5 : decode m_T_isDigit.2.1 5 = .ok (.invokestatic 65, 3) := by decide +kernel
theorem d_T_isDigit_8 : decode m_T_isDigit.2.1 8 = .ok (.ireturn, 1) := by decide +kernel
theorem d_T_isLetter_0 : decode m_T_isLetter.2.1 0 = .ok (.iload_n 0, 1) := by decide +kernel
theorem d_T_isLetter_1 : decode m_T_isLetter.2.1 1 = .ok (.bipush 65, 2) := by decide +kernel
theorem d_T_isLetter_3 : decode m_T_isLetter.2.1 3 = .ok (.bipush 90, 2) := by decide +kernel
theorem d_T_isLetter_5 : decode m_T_isLetter.2.1 5 = .ok (.invokestatic 65, 3) := by decide +kernel
theorem d_T_isLetter_8 : decode m_T_isLetter.2.1 8 = .ok (.ireturn, 1) := by decide +kernel
theorem d_T_keepEdition_0 : decode m_T_keepEdition.2.1 0 = .ok (.aload_n 0, 1) := by decide +kernel
theorem d_T_keepEdition_1 : decode m_T_keepEdition.2.1 1 = .ok (.getfield 89, 3) := by decide +kernel
theorem d_T_keepEdition_4 : decode m_T_keepEdition.2.1 4 = .ok (.ifCond .lt 15, 3) := by decide +kernel
theorem d_T_keepEdition_7 : decode m_T_keepEdition.2.1 7 = .ok (.aload_n 0, 1) := by decide +kernel
theorem d_T_keepEdition_8 : decode m_T_keepEdition.2.1 8 = .ok (.getfield 89, 3) := by decide +kernel
theorem d_T_keepEdition_11 : decode m_T_keepEdition.2.1 11 = .ok (.aload_n 0, 1) := by decide +kernel
theorem d_T_keepEdition_12 : decode m_T_keepEdition.2.1 12 = .ok (.getfield 42, 3) := by decide +kernel
theorem d_T_keepEdition_15 : decode m_T_keepEdition.2.1 15 = .ok (.arraylength, 1) := by decide +kernel
theorem d_T_keepEdition_16 : decode m_T_keepEdition.2.1 16 = .ok (.if_icmp .lt 4, 3) := by decide +kernel
theorem d_T_keepEdition_19 : decode m_T_keepEdition.2.1 19 = .ok (.return_, 1) := by decide +kernel
theorem d_T_keepEdition_20 : decode m_T_keepEdition.2.1 20 = .ok (.aload_n 1, 1) := by decide +kernel
theorem d_T_keepEdition_21 : decode m_T_keepEdition.2.1 21 = .ok (.iload_n 2, 1) := by decide +kernel
theorem d_T_keepEdition_22 : decode m_T_keepEdition.2.1 22 = .ok (.putfield 206, 3) := by decide +kernel
theorem d_T_keepEdition_25 : decode m_T_keepEdition.2.1 25 = .ok (.aload_n 0, 1) := by decide +kernel
theorem d_T_keepEdition_26 : decode m_T_keepEdition.2.1 26 = .ok (.getfield 42, 3) := by decide +kernel
theorem d_T_keepEdition_29 : decode m_T_keepEdition.2.1 29 = .ok (.aload_n 0, 1) := by decide +kernel
theorem d_T_keepEdition_30 : decode m_T_keepEdition.2.1 30 = .ok (.getfield 89, 3) := by decide +kernel
theorem d_T_keepEdition_33 : decode m_T_keepEdition.2.1 33 = .ok (.aload_n 1, 1) := by decide +kernel
theorem d_T_keepEdition_34 : decode m_T_keepEdition.2.1 34 = .ok (.aastore, 1) := by decide +kernel
theorem d_T_keepEdition_35 : decode m_T_keepEdition.2.1 35 = .ok (.aload_n 0, 1) := by decide +kernel
theorem d_T_keepEdition_36 : decode m_T_keepEdition.2.1 36 = .ok (.dup, 1) := by decide +kernel
theorem d_T_keepEdition_37 : decode m_T_keepEdition.2.1 37 = .ok (.getfield 89, 3) := by decide +kernel
theorem d_T_keepEdition_40 : decode m_T_keepEdition.2.1 40 = .ok (.iconst 1, 1) := by decide +kernel
theorem d_T_keepEdition_41 : decode m_T_keepEdition.2.1 41 = .ok (.iadd, 1) := by decide +kernel
theorem d_T_keepEdition_42 : decode m_T_keepEdition.2.1 42 = .ok (.putfield 89, 3) := by decide +kernel
theorem d_T_keepEdition_45 : decode m_T_keepEdition.2.1 45 = .ok (.aload_n 0, 1) := by decide +kernel
theorem d_T_keepEdition_46 : decode m_T_keepEdition.2.1 46 = .ok (.getfield 36, 3) := by decide +kernel
theorem d_T_keepEdition_49 : decode m_T_keepEdition.2.1 49 = .ok (.invokevirtual 105, 3) := by decide +kernel
theorem d_T_keepEdition_52 : decode m_T_keepEdition.2.1 52 = .ok (.return_, 1) := by decide +kernel
theorem d_T_today_0 : decode m_T_today.2.1 0 = .ok (.iload_n 1, 1) := by decide +kernel
theorem d_T_today_1 : decode m_T_today.2.1 1 = .ok (.iconst 0, 1) := by decide +kernel
theorem d_T_today_2 : decode m_T_today.2.1 2 = .ok (.sipush 1000, 3) := by decide +kernel
theorem d_T_today_5 : decode m_T_today.2.1 5 = .ok (.invokestatic 65, 3) := by decide +kernel
theorem d_T_today_8 : decode m_T_today.2.1 8 = .ok (.ifCond .ne 13, 3) := by decide +kernel
theorem d_T_today_11 : decode m_T_today.2.1 11 = .ok (.new 50, 3) := by decide +kernel
theorem d_T_today_14 : decode m_T_today.2.1 14 = .ok (.dup, 1) := by decide +kernel
theorem d_T_today_15 : decode m_T_today.2.1 15 = .ok (.ldc 69, 2) := by decide +kernel
theorem d_T_today_17 : decode m_T_today.2.1 17 = .ok (.invokespecial 54, 3) := by decide +kernel
theorem d_T_today_20 : decode m_T_today.2.1 20 = .ok (.athrow, 1) := by decide +kernel
theorem d_T_today_21 : decode m_T_today.2.1 21 = .ok (.aload_n 0, 1) := by decide +kernel
theorem d_T_today_22 : decode m_T_today.2.1 22 = .ok (.iload_n 1, 1) := by decide +kernel
theorem d_T_today_23 : decode m_T_today.2.1 23 = .ok (.putfield 102, 3) := by decide +kernel
theorem d_T_today_26 : decode m_T_today.2.1 26 = .ok (.aload_n 0, 1) := by decide +kernel
theorem d_T_today_27 : decode m_T_today.2.1 27 = .ok (.getfield 36, 3) := by decide +kernel
theorem d_T_today_30 : decode m_T_today.2.1 30 = .ok (.invokevirtual 105, 3) := by decide +kernel
theorem d_T_today_33 : decode m_T_today.2.1 33 = .ok (.aload_n 0, 1) := by decide +kernel
theorem d_T_today_34 : decode m_T_today.2.1 34 = .ok (.invokevirtual 106, 3) := by decide +kernel
theorem d_T_today_37 : decode m_T_today.2.1 37 = .ok (.ireturn, 1) := by decide +kernel
theorem d_T_fits_0 : decode m_T_fits.2.1 0 = .ok (.iload_n 1, 1) := by decide +kernel
theorem d_T_fits_1 : decode m_T_fits.2.1 1 = .ok (.invokestatic 110, 3) := by decide +kernel
theorem d_T_fits_4 : decode m_T_fits.2.1 4 = .ok (.ifCond .eq 35, 3) := by decide +kernel
theorem d_T_fits_7 : decode m_T_fits.2.1 7 = .ok (.iload_n 2, 1) := by decide +kernel
theorem d_T_fits_8 : decode m_T_fits.2.1 8 = .ok (.iconst 1, 1) := by decide +kernel
theorem d_T_fits_9 : decode m_T_fits.2.1 9 = .ok (.sipush 1000, 3) := by decide +kernel
theorem d_T_fits_12 : decode m_T_fits.2.1 12 = .ok (.invokestatic 65, 3) := by decide +kernel
theorem d_T_fits_15 : decode m_T_fits.2.1 15 = .ok (.ifCond .eq 24, 3) := by decide +kernel
theorem d_T_fits_18 : decode m_T_fits.2.1 18 = .ok (.iload_n 3, 1) := by decide +kernel
theorem d_T_fits_19 : decode m_T_fits.2.1 19 = .ok (.iconst 1, 1) := by decide +kernel
theorem d_T_fits_20 : decode m_T_fits.2.1 20 = .ok (.bipush 9, 2) := by decide +kernel
theorem d_T_fits_22 : decode m_T_fits.2.1 22 = .ok (.invokestatic 65, 3) := by decide +kernel
theorem d_T_fits_25 : decode m_T_fits.2.1 25 = .ok (.ifCond .eq 14, 3) := by decide +kernel
theorem d_T_fits_28 : decode m_T_fits.2.1 28 = .ok (.iload 4, 2) := by decide +kernel
theorem d_T_fits_30 : decode m_T_fits.2.1 30 = .ok (.iconst 0, 1) := by decide +kernel
theorem d_T_fits_31 : decode m_T_fits.2.1 31 = .ok (.bipush 9, 2) := by decide +kernel
theorem d_T_fits_33 : decode m_T_fits.2.1 33 = .ok (.invokestatic 65, 3) := by decide +kernel
theorem d_T_fits_36 : decode m_T_fits.2.1 36 = .ok (.ifCond .ne 13, 3) := by decide +kernel
theorem d_T_fits_39 : decode m_T_fits.2.1 39 = .ok (.new 50, 3) := by decide +kernel
theorem d_T_fits_42 : decode m_T_fits.2.1 42 = .ok (.dup, 1) := by decide +kernel
theorem d_T_fits_43 : decode m_T_fits.2.1 43 = .ok (.ldc 113, 2) := by decide +kernel
theorem d_T_fits_45 : decode m_T_fits.2.1 45 = .ok (.invokespecial 54, 3) := by decide +kernel
theorem d_T_fits_48 : decode m_T_fits.2.1 48 = .ok (.athrow, 1) := by decide +kernel
theorem d_T_fits_49 : decode m_T_fits.2.1 49 = .ok (.aload_n 0, 1) := by decide +kernel
theorem d_T_fits_50 : decode m_T_fits.2.1 50 = .ok (.invokevirtual 115, 3) := by decide +kernel
theorem d_T_fits_53 : decode m_T_fits.2.1 53 = .ok (.astore 5, 2) := by decide +kernel
theorem d_T_fits_55 : decode m_T_fits.2.1 55 = .ok (.aload_n 0, 1) := by decide +kernel
theorem d_T_fits_56 : decode m_T_fits.2.1 56 = .ok (.getfield 36, 3) := by decide +kernel
theorem d_T_fits_59 : decode m_T_fits.2.1 59 = .ok (.invokevirtual 105, 3) := by decide +kernel
theorem d_T_fits_62 : decode m_T_fits.2.1 62 = .ok (.iconst 0, 1) := by decide +kernel
theorem d_T_fits_63 : decode m_T_fits.2.1 63 = .ok (.istore 6, 2) := by decide +kernel
theorem d_T_fits_65 : decode m_T_fits.2.1 65 = .ok (.iload 6, 2) := by decide +kernel
theorem d_T_fits_67 : decode m_T_fits.2.1 67 = .ok (.aload 5, 2) := by decide +kernel
theorem d_T_fits_69 : decode m_T_fits.2.1 69 = .ok (.getfield 118, 3) := by decide +kernel
theorem d_T_fits_72 : decode m_T_fits.2.1 72 = .ok (.if_icmp .ge 54, 3) := by decide +kernel
theorem d_T_fits_75 : decode m_T_fits.2.1 75 = .ok (.aload 5, 2) := by decide +kernel
theorem d_T_fits_77 : decode m_T_fits.2.1 77 = .ok (.iload 6, 2) := by decide +kernel
theorem d_T_fits_79 : decode m_T_fits.2.1 79 = .ok (.invokevirtual 121, 3) := by decide +kernel
theorem d_T_fits_82 : decode m_T_fits.2.1 82 = .ok (.astore 7, 2) := by decide +kernel
theorem d_T_fits_84 : decode m_T_fits.2.1 84 = .ok (.aload 7, 2) := by decide +kernel
theorem d_T_fits_86 : decode m_T_fits.2.1 86 = .ok (.ifnull 34, 3) := by decide +kernel
theorem d_T_fits_89 : decode m_T_fits.2.1 89 = .ok (.aload 7, 2) := by decide +kernel
theorem d_T_fits_91 : decode m_T_fits.2.1 91 = .ok (.iload_n 1, 1) := by decide +kernel
theorem d_T_fits_92 : decode m_T_fits.2.1 92 = .ok (.iload_n 2, 1) := by decide +kernel
theorem d_T_fits_93 : decode m_T_fits.2.1 93 = .ok (.iload_n 3, 1) := by decide +kernel
theorem d_T_fits_94 : decode m_T_fits.2.1 94 = .ok (.iload 4, 2) := by decide +kernel
theorem d_T_fits_96 : decode m_T_fits.2.1 96 = .ok (.invokevirtual 125, 3) := by decide +kernel
theorem d_T_fits_99 : decode m_T_fits.2.1 99 = .ok (.ifCond .eq 21, 3) := by decide +kernel
theorem d_T_fits_102 : decode m_T_fits.2.1 102 = .ok (.aload_n 0, 1) := by decide +kernel
theorem d_T_fits_103 : decode m_T_fits.2.1 103 = .ok (.getfield 36, 3) := by decide +kernel
theorem d_T_fits_106 : decode m_T_fits.2.1 106 = .ok (.aload 7, 2) := by decide +kernel
theorem d_T_fits_108 : decode m_T_fits.2.1 108 = .ok (.getfield 131, 3) := by decide +kernel
theorem d_T_fits_111 : decode m_T_fits.2.1 111 = .ok (.aload 7, 2) := by decide +kernel
theorem d_T_fits_113 : decode m_T_fits.2.1 113 = .ok (.iload_n 1, 1) := by decide +kernel
theorem d_T_fits_114 : decode m_T_fits.2.1 114 = .ok (.invokevirtual 134, 3) := by decide +kernel
theorem d_T_fits_117 : decode m_T_fits.2.1 117 = .ok (.invokevirtual 138, 3) := by decide +kernel
theorem d_T_fits_120 : decode m_T_fits.2.1 120 = .ok (.iinc 6 1, 3) := by decide +kernel
theorem d_T_fits_123 : decode m_T_fits.2.1 123 = .ok (.goto (-58), 3) := by decide +kernel
theorem d_T_fits_126 : decode m_T_fits.2.1 126 = .ok (.aload_n 0, 1) := by decide +kernel
theorem d_T_fits_127 : decode m_T_fits.2.1 127 = .ok (.getfield 36, 3) := by decide +kernel
theorem d_T_fits_130 : decode m_T_fits.2.1 130 = .ok (.getfield 142, 3) := by decide +kernel
theorem d_T_fits_133 : decode m_T_fits.2.1 133 = .ok (.ireturn, 1) := by decide +kernel
theorem d_T_isWeight_0 : decode m_T_isWeight.2.1 0 = .ok (.iload_n 0, 1) := by decide +kernel
theorem d_T_isWeight_1 : decode m_T_isWeight.2.1 1 = .ok (.iconst 1, 1) := by decide +kernel
theorem d_T_isWeight_2 : decode m_T_isWeight.2.1 2 = .ok (.sipush 2000, 3) := by decide +kernel
theorem d_T_isWeight_5 : decode m_T_isWeight.2.1 5 = .ok (.invokestatic 65, 3) := by decide +kernel
theorem d_T_isWeight_8 : decode m_T_isWeight.2.1 8 = .ok (.ireturn, 1) := by decide +kernel
theorem d_T_actingEdition_0 : decode m_T_actingEdition.2.1 0 = .ok (.aload_n 0, 1) := by decide +kernel
theorem d_T_actingEdition_1 : decode m_T_actingEdition.2.1 1 = .ok (.aload_n 0, 1) := by decide +kernel
theorem d_T_actingEdition_2 : decode m_T_actingEdition.2.1 2 = .ok (.invokevirtual 106, 3) := by decide +kernel
theorem d_T_actingEdition_5 : decode m_T_actingEdition.2.1 5 = .ok (.invokevirtual 217, 3) := by decide +kernel
theorem d_T_actingEdition_8 : decode m_T_actingEdition.2.1 8 = .ok (.astore_n 1, 1) := by decide +kernel
theorem d_T_actingEdition_9 : decode m_T_actingEdition.2.1 9 = .ok (.aload_n 1, 1) := by decide +kernel
theorem d_T_actingEdition_10 : decode m_T_actingEdition.2.1 10 = .ok (.ifnonnull 13, 3) := by decide +kernel
theorem d_T_actingEdition_13 : decode m_T_actingEdition.2.1 13 = .ok (.new 170, 3) := by decide +kernel
theorem d_T_actingEdition_16 : decode m_T_actingEdition.2.1 16 = .ok (.dup, 1) := by decide +kernel
theorem d_T_actingEdition_17 : decode m_T_actingEdition.2.1 17 = .ok (.ldc 220, 2) := by decide +kernel
theorem d_T_actingEdition_19 : decode m_T_actingEdition.2.1 19 = .ok (.invokespecial 174, 3) := by decide +kernel
theorem d_T_actingEdition_22 : decode m_T_actingEdition.2.1 22 = .ok (.athrow, 1) := by decide +kernel
theorem d_T_actingEdition_23 : decode m_T_actingEdition.2.1 23 = .ok (.aload_n 1, 1) := by decide +kernel
theorem d_T_actingEdition_24 : decode m_T_actingEdition.2.1 24 = .ok (.areturn, 1) := by decide +kernel
theorem d_T_hasDigit_0 : decode m_T_hasDigit.2.1 0 = .ok (.iload_n 1, 1) := by decide +kernel
theorem d_T_hasDigit_1 : decode m_T_hasDigit.2.1 1 = .ok (.iconst 1, 1) := by decide +kernel
theorem d_T_hasDigit_2 : decode m_T_hasDigit.2.1 2 = .ok (.bipush 9, 2) := by decide +kernel
theorem d_T_hasDigit_4 : decode m_T_hasDigit.2.1 4 = .ok (.invokestatic 65, 3) := by decide +kernel
theorem d_T_hasDigit_7 : decode m_T_hasDigit.2.1 7 = .ok (.ifCond .eq 16, 3) := by decide +kernel
theorem d_T_hasDigit_10 : decode m_T_hasDigit.2.1 10 = .ok (.iload_n 0, 1) := by decide +kernel
theorem d_T_hasDigit_11 : decode m_T_hasDigit.2.1 11 = .ok (.iload_n 1, 1) := by decide +kernel
theorem d_T_hasDigit_12 : decode m_T_hasDigit.2.1 12 = .ok (.ishr, 1) := by decide +kernel
theorem d_T_hasDigit_13 : decode m_T_hasDigit.2.1 13 = .ok (.iconst 1, 1) := by decide +kernel
theorem d_T_hasDigit_14 : decode m_T_hasDigit.2.1 14 = .ok (.iand, 1) := by decide +kernel
theorem d_T_hasDigit_15 : decode m_T_hasDigit.2.1 15 = .ok (.iconst 1, 1) := by decide +kernel
theorem d_T_hasDigit_16 : decode m_T_hasDigit.2.1 16 = .ok (.if_icmp .ne 7, 3) := by decide +kernel
theorem d_T_hasDigit_19 : decode m_T_hasDigit.2.1 19 = .ok (.iconst 1, 1) := by decide +kernel
theorem d_T_hasDigit_20 : decode m_T_hasDigit.2.1 20 = .ok (.goto 4, 3) := by decide +kernel
theorem d_T_hasDigit_23 : decode m_T_hasDigit.2.1 23 = .ok (.iconst 0, 1) := by decide +kernel
theorem d_T_hasDigit_24 : decode m_T_hasDigit.2.1 24 = .ok (.ireturn, 1) := by decide +kernel
theorem d_T_price_0 : decode m_T_price.2.1 0 = .ok (.aload_n 0, 1) := by decide +kernel
theorem d_T_price_1 : decode m_T_price.2.1 1 = .ok (.invokevirtual 115, 3) := by decide +kernel
theorem d_T_price_4 : decode m_T_price.2.1 4 = .ok (.iload_n 1, 1) := by decide +kernel
theorem d_T_price_5 : decode m_T_price.2.1 5 = .ok (.invokevirtual 148, 3) := by decide +kernel
theorem d_T_price_8 : decode m_T_price.2.1 8 = .ok (.invokestatic 151, 3) := by decide +kernel
theorem d_T_price_11 : decode m_T_price.2.1 11 = .ok (.astore_n 3, 1) := by decide +kernel
theorem d_T_price_12 : decode m_T_price.2.1 12 = .ok (.iload_n 2, 1) := by decide +kernel
theorem d_T_price_13 : decode m_T_price.2.1 13 = .ok (.invokestatic 110, 3) := by decide +kernel
theorem d_T_price_16 : decode m_T_price.2.1 16 = .ok (.ifCond .ne 13, 3) := by decide +kernel
theorem d_T_price_19 : decode m_T_price.2.1 19 = .ok (.new 50, 3) := by decide +kernel
theorem d_T_price_22 : decode m_T_price.2.1 22 = .ok (.dup, 1) := by decide +kernel
theorem d_T_price_23 : decode m_T_price.2.1 23 = .ok (.ldc 155, 2) := by decide +kernel
theorem d_T_price_25 : decode m_T_price.2.1 25 = .ok (.invokespecial 54, 3) := by decide +kernel
theorem d_T_price_28 : decode m_T_price.2.1 28 = .ok (.athrow, 1) := by decide +kernel
theorem d_T_price_29 : decode m_T_price.2.1 29 = .ok (.aload_n 3, 1) := by decide +kernel
theorem d_T_price_30 : decode m_T_price.2.1 30 = .ok (.iload_n 2, 1) := by decide +kernel
theorem d_T_price_31 : decode m_T_price.2.1 31 = .ok (.invokevirtual 134, 3) := by decide +kernel
theorem d_T_price_34 : decode m_T_price.2.1 34 = .ok (.ireturn, 1) := by decide +kernel
theorem d_T_known_0 : decode m_T_known.2.1 0 = .ok (.aload_n 0, 1) := by decide +kernel
theorem d_T_known_1 : decode m_T_known.2.1 1 = .ok (.ifnonnull 13, 3) := by decide +kernel
theorem d_T_known_4 : decode m_T_known.2.1 4 = .ok (.new 222, 3) := by decide +kernel
theorem d_T_known_7 : decode m_T_known.2.1 7 = .ok (.dup, 1) := by decide +kernel
theorem d_T_known_8 : decode m_T_known.2.1 8 = .ok (.ldc 227, 2) := by decide +kernel
theorem d_T_known_10 : decode m_T_known.2.1 10 = .ok (.invokespecial 226, 3) := by decide +kernel
theorem d_T_known_13 : decode m_T_known.2.1 13 = .ok (.athrow, 1) := by decide +kernel
theorem d_T_known_14 : decode m_T_known.2.1 14 = .ok (.aload_n 0, 1) := by decide +kernel
theorem d_T_known_15 : decode m_T_known.2.1 15 = .ok (.areturn, 1) := by decide +kernel
theorem d_T_zone_0 : decode m_T_zone.2.1 0 = .ok (.iload_n 1, 1) := by decide +kernel
theorem d_T_zone_1 : decode m_T_zone.2.1 1 = .ok (.invokestatic 157, 3) := by decide +kernel
theorem d_T_zone_4 : decode m_T_zone.2.1 4 = .ok (.ifCond .ne 13, 3) := by decide +kernel
theorem d_T_zone_7 : decode m_T_zone.2.1 7 = .ok (.new 50, 3) := by decide +kernel
theorem d_T_zone_10 : decode m_T_zone.2.1 10 = .ok (.dup, 1) := by decide +kernel
theorem d_T_zone_11 : decode m_T_zone.2.1 11 = .ok (.ldc 160, 2) := by decide +kernel
theorem d_T_zone_13 : decode m_T_zone.2.1 13 = .ok (.invokespecial 54, 3) := by decide +kernel
theorem d_T_zone_16 : decode m_T_zone.2.1 16 = .ok (.athrow, 1) := by decide +kernel
theorem d_T_zone_17 : decode m_T_zone.2.1 17 = .ok (.aload_n 0, 1) := by decide +kernel
theorem d_T_zone_18 : decode m_T_zone.2.1 18 = .ok (.invokevirtual 115, 3) := by decide +kernel
theorem d_T_zone_21 : decode m_T_zone.2.1 21 = .ok (.iload_n 1, 1) := by decide +kernel
theorem d_T_zone_22 : decode m_T_zone.2.1 22 = .ok (.invokevirtual 162, 3) := by decide +kernel
theorem d_T_zone_25 : decode m_T_zone.2.1 25 = .ok (.ireturn, 1) := by decide +kernel
theorem d_T_isCode_0 : decode m_T_isCode.2.1 0 = .ok (.iload_n 0, 1) := by decide +kernel
theorem d_T_isCode_1 : decode m_T_isCode.2.1 1 = .ok (.iconst 0, 1) := by decide +kernel
theorem d_T_isCode_2 : decode m_T_isCode.2.1 2 = .ok (.sipush 9999, 3) := by decide +kernel
theorem d_T_isCode_5 : decode m_T_isCode.2.1 5 = .ok (.invokestatic 65, 3) := by decide +kernel
theorem d_T_isCode_8 : decode m_T_isCode.2.1 8 = .ok (.ireturn, 1) := by decide +kernel
theorem d_T_hours_0 : decode m_T_hours.2.1 0 = .ok (.aload_n 0, 1) := by decide +kernel
theorem d_T_hours_1 : decode m_T_hours.2.1 1 = .ok (.invokevirtual 115, 3) := by decide +kernel
theorem d_T_hours_4 : decode m_T_hours.2.1 4 = .ok (.iload_n 1, 1) := by decide +kernel
theorem d_T_hours_5 : decode m_T_hours.2.1 5 = .ok (.invokevirtual 148, 3) := by decide +kernel
theorem d_T_hours_8 : decode m_T_hours.2.1 8 = .ok (.invokestatic 151, 3) := by decide +kernel
theorem d_T_hours_11 : decode m_T_hours.2.1 11 = .ok (.astore_n 3, 1) := by decide +kernel
theorem d_T_hours_12 : decode m_T_hours.2.1 12 = .ok (.iload_n 2, 1) := by decide +kernel
theorem d_T_hours_13 : decode m_T_hours.2.1 13 = .ok (.iconst 0, 1) := by decide +kernel
theorem d_T_hours_14 : decode m_T_hours.2.1 14 = .ok (.bipush 23, 2) := by decide +kernel
theorem d_T_hours_16 : decode m_T_hours.2.1 16 = .ok (.invokestatic 65, 3) := by decide +kernel
theorem d_T_hours_19 : decode m_T_hours.2.1 19 = .ok (.ifCond .ne 13, 3) := by decide +kernel
theorem d_T_hours_22 : decode m_T_hours.2.1 22 = .ok (.new 50, 3) := by decide +kernel
theorem d_T_hours_25 : decode m_T_hours.2.1 25 = .ok (.dup, 1) := by decide +kernel
theorem d_T_hours_26 : decode m_T_hours.2.1 26 = .ok (.ldc 165, 2) := by decide +kernel
theorem d_T_hours_28 : decode m_T_hours.2.1 28 = .ok (.invokespecial 54, 3) := by decide +kernel
theorem d_T_hours_31 : decode m_T_hours.2.1 31 = .ok (.athrow, 1) := by decide +kernel
theorem d_T_hours_32 : decode m_T_hours.2.1 32 = .ok (.aload_n 3, 1) := by decide +kernel
theorem d_T_hours_33 : decode m_T_hours.2.1 33 = .ok (.invokevirtual 167, 3) := by decide +kernel
theorem d_T_hours_36 : decode m_T_hours.2.1 36 = .ok (.ifCond .ne 13, 3) := by decide +kernel
theorem d_T_hours_39 : decode m_T_hours.2.1 39 = .ok (.new 170, 3) := by decide +kernel
theorem d_T_hours_42 : decode m_T_hours.2.1 42 = .ok (.dup, 1) := by decide +kernel
theorem d_T_hours_43 : decode m_T_hours.2.1 43 = .ok (.ldc 172, 2) := by decide +kernel
theorem d_T_hours_45 : decode m_T_hours.2.1 45 = .ok (.invokespecial 174, 3) := by decide +kernel
theorem d_T_hours_48 : decode m_T_hours.2.1 48 = .ok (.athrow, 1) := by decide +kernel
theorem d_T_hours_49 : decode m_T_hours.2.1 49 = .ok (.aload_n 3, 1) := by decide +kernel
theorem d_T_hours_50 : decode m_T_hours.2.1 50 = .ok (.iload_n 2, 1) := by decide +kernel
theorem d_T_hours_51 : decode m_T_hours.2.1 51 = .ok (.invokevirtual 175, 3) := by decide +kernel
theorem d_T_hours_54 : decode m_T_hours.2.1 54 = .ok (.ireturn, 1) := by decide +kernel
theorem d_T_label_0 : decode m_T_label.2.1 0 = .ok (.aload_n 0, 1) := by decide +kernel
theorem d_T_label_1 : decode m_T_label.2.1 1 = .ok (.invokevirtual 115, 3) := by decide +kernel
theorem d_T_label_4 : decode m_T_label.2.1 4 = .ok (.astore_n 3, 1) := by decide +kernel
theorem d_T_label_5 : decode m_T_label.2.1 5 = .ok (.aload_n 3, 1) := by decide +kernel
theorem d_T_label_6 : decode m_T_label.2.1 6 = .ok (.iload_n 1, 1) := by decide +kernel
theorem d_T_label_7 : decode m_T_label.2.1 7 = .ok (.invokevirtual 148, 3) := by decide +kernel
theorem d_T_label_10 : decode m_T_label.2.1 10 = .ok (.invokestatic 151, 3) := by decide +kernel
theorem d_T_label_13 : decode m_T_label.2.1 13 = .ok (.astore 4, 2) := by decide +kernel
theorem d_T_label_15 : decode m_T_label.2.1 15 = .ok (.iload_n 2, 1) := by decide +kernel
theorem d_T_label_16 : decode m_T_label.2.1 16 = .ok (.invokestatic 157, 3) := by decide +kernel
theorem d_T_label_19 : decode m_T_label.2.1 19 = .ok (.ifCond .ne 13, 3) := by decide +kernel
theorem d_T_label_22 : decode m_T_label.2.1 22 = .ok (.new 50, 3) := by decide +kernel
theorem d_T_label_25 : decode m_T_label.2.1 25 = .ok (.dup, 1) := by decide +kernel
theorem d_T_label_26 : decode m_T_label.2.1 26 = .ok (.ldc 160, 2) := by decide +kernel
theorem d_T_label_28 : decode m_T_label.2.1 28 = .ok (.invokespecial 54, 3) := by decide +kernel
theorem d_T_label_31 : decode m_T_label.2.1 31 = .ok (.athrow, 1) := by decide +kernel
theorem d_T_label_32 : decode m_T_label.2.1 32 = .ok (.aload_n 3, 1) := by decide +kernel
theorem d_T_label_33 : decode m_T_label.2.1 33 = .ok (.iload_n 2, 1) := by decide +kernel
theorem d_T_label_34 : decode m_T_label.2.1 34 = .ok (.invokevirtual 162, 3) := by decide +kernel
theorem d_T_label_37 : decode m_T_label.2.1 37 = .ok (.istore 5, 2) := by decide +kernel
theorem d_T_label_39 : decode m_T_label.2.1 39 = .ok (.aload 4, 2) := by decide +kernel
theorem d_T_label_41 : decode m_T_label.2.1 41 = .ok (.iload 5, 2) := by decide +kernel
theorem d_T_label_43 : decode m_T_label.2.1 43 = .ok (.invokevirtual 178, 3) := by decide +kernel
theorem d_T_label_46 : decode m_T_label.2.1 46 = .ok (.ifCond .ne 5, 3) := by decide +kernel
theorem d_T_label_49 : decode m_T_label.2.1 49 = .ok (.iconst 0, 1) := by decide +kernel
theorem d_T_label_50 : decode m_T_label.2.1 50 = .ok (.ireturn, 1) := by decide +kernel
theorem d_T_label_51 : decode m_T_label.2.1 51 = .ok (.aload_n 0, 1) := by decide +kernel
theorem d_T_label_52 : decode m_T_label.2.1 52 = .ok (.aload 4, 2) := by decide +kernel
theorem d_T_label_54 : decode m_T_label.2.1 54 = .ok (.getfield 131, 3) := by decide +kernel
theorem d_T_label_57 : decode m_T_label.2.1 57 = .ok (.iload 5, 2) := by decide +kernel
theorem d_T_label_59 : decode m_T_label.2.1 59 = .ok (.iload_n 2, 1) := by decide +kernel
theorem d_T_label_60 : decode m_T_label.2.1 60 = .ok (.invokevirtual 181, 3) := by decide +kernel
theorem d_T_label_63 : decode m_T_label.2.1 63 = .ok (.aload_n 0, 1) := by decide +kernel
theorem d_T_label_64 : decode m_T_label.2.1 64 = .ok (.getfield 21, 3) := by decide +kernel
theorem d_T_label_67 : decode m_T_label.2.1 67 = .ok (.getfield 185, 3) := by decide +kernel
theorem d_T_label_70 : decode m_T_label.2.1 70 = .ok (.ireturn, 1) := by decide +kernel
theorem d_T_printLabel_0 : decode m_T_printLabel.2.1 0 = .ok (.aload_n 0, 1) := by decide +kernel
theorem d_T_printLabel_1 : decode m_T_printLabel.2.1 1 = .ok (.getfield 21, 3) := by decide +kernel
theorem d_T_printLabel_4 : decode m_T_printLabel.2.1 4 = .ok (.invokevirtual 75, 3) := by decide +kernel
theorem d_T_printLabel_7 : decode m_T_printLabel.2.1 7 = .ok (.aload_n 0, 1) := by decide +kernel
theorem d_T_printLabel_8 : decode m_T_printLabel.2.1 8 = .ok (.getfield 21, 3) := by decide +kernel
theorem d_T_printLabel_11 : decode m_T_printLabel.2.1 11 = .ok (.iload_n 1, 1) := by decide +kernel
theorem d_T_printLabel_12 : decode m_T_printLabel.2.1 12 = .ok (.invokevirtual 57, 3) := by decide +kernel
theorem d_T_printLabel_15 : decode m_T_printLabel.2.1 15 = .ok (.pop, 1) := by decide +kernel
theorem d_T_printLabel_16 : decode m_T_printLabel.2.1 16 = .ok (.aload_n 0, 1) := by decide +kernel
theorem d_T_printLabel_17 : decode m_T_printLabel.2.1 17 = .ok (.getfield 21, 3) := by decide +kernel
theorem d_T_printLabel_20 : decode m_T_printLabel.2.1 20 = .ok (.bipush 48, 2) := by decide +kernel
theorem d_T_printLabel_22 : decode m_T_printLabel.2.1 22 = .ok (.iload_n 2, 1) := by decide +kernel
theorem d_T_printLabel_23 : decode m_T_printLabel.2.1 23 = .ok (.iadd, 1) := by decide +kernel
theorem d_T_printLabel_24 : decode m_T_printLabel.2.1 24 = .ok (.invokevirtual 57, 3) := by decide +kernel
theorem d_T_printLabel_27 : decode m_T_printLabel.2.1 27 = .ok (.pop, 1) := by decide +kernel
theorem d_T_printLabel_28 : decode m_T_printLabel.2.1 28 = .ok (.aload_n 0, 1) := by decide +kernel
theorem d_T_printLabel_29 : decode m_T_printLabel.2.1 29 = .ok (.getfield 21, 3) := by decide +kernel
theorem d_T_printLabel_32 : decode m_T_printLabel.2.1 32 = .ok (.bipush 45, 2) := by decide +kernel
theorem d_T_printLabel_34 : decode m_T_printLabel.2.1 34 = .ok (.invokevirtual 57, 3) := by decide +kernel
theorem d_T_printLabel_37 : decode m_T_printLabel.2.1 37 = .ok (.pop, 1) := by decide +kernel
theorem d_T_printLabel_38 : decode m_T_printLabel.2.1 38 = .ok (.aload_n 0, 1) := by decide +kernel
theorem d_T_printLabel_39 : decode m_T_printLabel.2.1 39 = .ok (.getfield 21, 3) := by decide +kernel
theorem d_T_printLabel_42 : decode m_T_printLabel.2.1 42 = .ok (.iload_n 3, 1) := by decide +kernel
theorem d_T_printLabel_43 : decode m_T_printLabel.2.1 43 = .ok (.iconst 4, 1) := by decide +kernel
theorem d_T_printLabel_44 : decode m_T_printLabel.2.1 44 = .ok (.invokevirtual 229, 3) := by decide +kernel
theorem d_T_printLabel_47 : decode m_T_printLabel.2.1 47 = .ok (.aload_n 0, 1) := by decide +kernel
theorem d_T_printLabel_48 : decode m_T_printLabel.2.1 48 = .ok (.getfield 21, 3) := by decide +kernel
theorem d_T_printLabel_51 : decode m_T_printLabel.2.1 51 = .ok (.aload_n 0, 1) := by decide +kernel
theorem d_T_printLabel_52 : decode m_T_printLabel.2.1 52 = .ok (.getfield 21, 3) := by decide +kernel
theorem d_T_printLabel_55 : decode m_T_printLabel.2.1 55 = .ok (.invokestatic 232, 3) := by decide +kernel
theorem d_T_printLabel_58 : decode m_T_printLabel.2.1 58 = .ok (.invokevirtual 57, 3) := by decide +kernel
theorem d_T_printLabel_61 : decode m_T_printLabel.2.1 61 = .ok (.pop, 1) := by decide +kernel
theorem d_T_printLabel_62 : decode m_T_printLabel.2.1 62 = .ok (.return_, 1) := by decide +kernel
theorem d_T_checkLetter_0 : decode m_T_checkLetter.2.1 0 = .ok (.iconst 0, 1) := by decide +kernel
theorem d_T_checkLetter_1 : decode m_T_checkLetter.2.1 1 = .ok (.istore_n 1, 1) := by decide +kernel
theorem d_T_checkLetter_2 : decode m_T_checkLetter.2.1 2 = .ok (.iconst 0, 1) := by decide +kernel
theorem d_T_checkLetter_3 : decode m_T_checkLetter.2.1 3 = .ok (.istore_n 2, 1) := by decide +kernel
theorem d_T_checkLetter_4 : decode m_T_checkLetter.2.1 4 = .ok (.iload_n 2, 1) := by decide +kernel
theorem d_T_checkLetter_5 : decode m_T_checkLetter.2.1 5 = .ok (.bipush 7, 2) := by decide +kernel
theorem d_T_checkLetter_7 : decode m_T_checkLetter.2.1 7 = .ok (.if_icmp .ge 21, 3) := by decide +kernel
theorem d_T_checkLetter_10 : decode m_T_checkLetter.2.1 10 = .ok (.iload_n 1, 1) := by decide +kernel
theorem d_T_checkLetter_11 : decode m_T_checkLetter.2.1 11 = .ok (.iload_n 2, 1) := by decide +kernel
theorem d_T_checkLetter_12 : decode m_T_checkLetter.2.1 12 = .ok (.iconst 1, 1) := by decide +kernel
theorem d_T_checkLetter_13 : decode m_T_checkLetter.2.1 13 = .ok (.iadd, 1) := by decide +kernel
theorem d_T_checkLetter_14 : decode m_T_checkLetter.2.1 14 = .ok (.aload_n 0, 1) := by decide +kernel
theorem d_T_checkLetter_15 : decode m_T_checkLetter.2.1 15 = .ok (.iload_n 2, 1) := by decide +kernel
theorem d_T_checkLetter_16 : decode m_T_checkLetter.2.1 16 = .ok (.invokevirtual 193, 3) := by decide +kernel
theorem d_T_checkLetter_19 : decode m_T_checkLetter.2.1 19 = .ok (.imul, 1) := by decide +kernel
theorem d_T_checkLetter_20 : decode m_T_checkLetter.2.1 20 = .ok (.iadd, 1) := by decide +kernel
theorem d_T_checkLetter_21 : decode m_T_checkLetter.2.1 21 = .ok (.istore_n 1, 1) := by decide +kernel
theorem d_T_checkLetter_22 : decode m_T_checkLetter.2.1 22 = .ok (.iinc 2 1, 3) := by decide +kernel
theorem d_T_checkLetter_25 : decode m_T_checkLetter.2.1 25 = .ok (.goto (-21), 3) := by decide +kernel
theorem d_T_checkLetter_28 : decode m_T_checkLetter.2.1 28 = .ok (.bipush 65, 2) := by decide +kernel
theorem d_T_checkLetter_30 : decode m_T_checkLetter.2.1 30 = .ok (.iload_n 1, 1) := by decide +kernel
theorem d_T_checkLetter_31 : decode m_T_checkLetter.2.1 31 = .ok (.bipush 26, 2) := by decide +kernel
theorem d_T_checkLetter_33 : decode m_T_checkLetter.2.1 33 = .ok (.irem, 1) := by decide +kernel
theorem d_T_checkLetter_34 : decode m_T_checkLetter.2.1 34 = .ok (.iadd, 1) := by decide +kernel
theorem d_T_checkLetter_35 : decode m_T_checkLetter.2.1 35 = .ok (.ireturn, 1) := by decide +kernel
theorem d_T_print_0 : decode m_T_print.2.1 0 = .ok (.aload_n 0, 1) := by decide +kernel
theorem d_T_print_1 : decode m_T_print.2.1 1 = .ok (.iload_n 1, 1) := by decide +kernel
theorem d_T_print_2 : decode m_T_print.2.1 2 = .ok (.invokevirtual 186, 3) := by decide +kernel
theorem d_T_print_5 : decode m_T_print.2.1 5 = .ok (.iload_n 2, 1) := by decide +kernel
theorem d_T_print_6 : decode m_T_print.2.1 6 = .ok (.invokevirtual 148, 3) := by decide +kernel
theorem d_T_print_9 : decode m_T_print.2.1 9 = .ok (.invokestatic 151, 3) := by decide +kernel
theorem d_T_print_12 : decode m_T_print.2.1 12 = .ok (.astore_n 3, 1) := by decide +kernel
theorem d_T_print_13 : decode m_T_print.2.1 13 = .ok (.aload_n 0, 1) := by decide +kernel
theorem d_T_print_14 : decode m_T_print.2.1 14 = .ok (.getfield 21, 3) := by decide +kernel
theorem d_T_print_17 : decode m_T_print.2.1 17 = .ok (.invokevirtual 75, 3) := by decide +kernel
theorem d_T_print_20 : decode m_T_print.2.1 20 = .ok (.aload_n 3, 1) := by decide +kernel
theorem d_T_print_21 : decode m_T_print.2.1 21 = .ok (.aload_n 0, 1) := by decide +kernel
theorem d_T_print_22 : decode m_T_print.2.1 22 = .ok (.getfield 21, 3) := by decide +kernel
theorem d_T_print_25 : decode m_T_print.2.1 25 = .ok (.invokevirtual 190, 3) := by decide +kernel
theorem d_T_print_28 : decode m_T_print.2.1 28 = .ok (.aload_n 0, 1) := by decide +kernel
theorem d_T_print_29 : decode m_T_print.2.1 29 = .ok (.getfield 21, 3) := by decide +kernel
theorem d_T_print_32 : decode m_T_print.2.1 32 = .ok (.getfield 185, 3) := by decide +kernel
theorem d_T_print_35 : decode m_T_print.2.1 35 = .ok (.ireturn, 1) := by decide +kernel
theorem d_T_knownEdition_0 : decode m_T_knownEdition.2.1 0 = .ok (.aload_n 0, 1) := by decide +kernel
theorem d_T_knownEdition_1 : decode m_T_knownEdition.2.1 1 = .ok (.iload_n 1, 1) := by decide +kernel
theorem d_T_knownEdition_2 : decode m_T_knownEdition.2.1 2 = .ok (.invokevirtual 217, 3) := by decide +kernel
theorem d_T_knownEdition_5 : decode m_T_knownEdition.2.1 5 = .ok (.astore_n 2, 1) := by decide +kernel
theorem d_T_knownEdition_6 : decode m_T_knownEdition.2.1 6 = .ok (.aload_n 2, 1) := by decide +kernel
theorem d_T_knownEdition_7 : decode m_T_knownEdition.2.1 7 = .ok (.ifnonnull 13, 3) := by decide +kernel
theorem d_T_knownEdition_10 : decode m_T_knownEdition.2.1 10 = .ok (.new 222, 3) := by decide +kernel
theorem d_T_knownEdition_13 : decode m_T_knownEdition.2.1 13 = .ok (.dup, 1) := by decide +kernel
theorem d_T_knownEdition_14 : decode m_T_knownEdition.2.1 14 = .ok (.ldc 224, 2) := by decide +kernel
theorem d_T_knownEdition_16 : decode m_T_knownEdition.2.1 16 = .ok (.invokespecial 226, 3) := by decide +kernel
theorem d_T_knownEdition_19 : decode m_T_knownEdition.2.1 19 = .ok (.athrow, 1) := by decide +kernel
theorem d_T_knownEdition_20 : decode m_T_knownEdition.2.1 20 = .ok (.aload_n 2, 1) := by decide +kernel
theorem d_T_knownEdition_21 : decode m_T_knownEdition.2.1 21 = .ok (.areturn, 1) := by decide +kernel
theorem d_T_out_0 : decode m_T_out.2.1 0 = .ok (.aload_n 0, 1) := by decide +kernel
theorem d_T_out_1 : decode m_T_out.2.1 1 = .ok (.getfield 21, 3) := by decide +kernel
theorem d_T_out_4 : decode m_T_out.2.1 4 = .ok (.iload_n 1, 1) := by decide +kernel
theorem d_T_out_5 : decode m_T_out.2.1 5 = .ok (.invokevirtual 193, 3) := by decide +kernel
theorem d_T_out_8 : decode m_T_out.2.1 8 = .ok (.istore_n 2, 1) := by decide +kernel
theorem d_T_out_9 : decode m_T_out.2.1 9 = .ok (.iload_n 2, 1) := by decide +kernel
theorem d_T_out_10 : decode m_T_out.2.1 10 = .ok (.ifCond .ge 13, 3) := by decide +kernel
theorem d_T_out_13 : decode m_T_out.2.1 13 = .ok (.new 50, 3) := by decide +kernel
theorem d_T_out_16 : decode m_T_out.2.1 16 = .ok (.dup, 1) := by decide +kernel
theorem d_T_out_17 : decode m_T_out.2.1 17 = .ok (.ldc 196, 2) := by decide +kernel
theorem d_T_out_19 : decode m_T_out.2.1 19 = .ok (.invokespecial 54, 3) := by decide +kernel
theorem d_T_out_22 : decode m_T_out.2.1 22 = .ok (.athrow, 1) := by decide +kernel
theorem d_T_out_23 : decode m_T_out.2.1 23 = .ok (.iload_n 2, 1) := by decide +kernel
theorem d_T_out_24 : decode m_T_out.2.1 24 = .ok (.ireturn, 1) := by decide +kernel
theorem d_T_number_0 : decode m_T_number.2.1 0 = .ok (.iload_n 1, 1) := by decide +kernel
theorem d_T_number_1 : decode m_T_number.2.1 1 = .ok (.invokestatic 46, 3) := by decide +kernel
theorem d_T_number_4 : decode m_T_number.2.1 4 = .ok (.ifCond .ne 13, 3) := by decide +kernel
theorem d_T_number_7 : decode m_T_number.2.1 7 = .ok (.new 50, 3) := by decide +kernel
theorem d_T_number_10 : decode m_T_number.2.1 10 = .ok (.dup, 1) := by decide +kernel
theorem d_T_number_11 : decode m_T_number.2.1 11 = .ok (.ldc 198, 2) := by decide +kernel
theorem d_T_number_13 : decode m_T_number.2.1 13 = .ok (.invokespecial 54, 3) := by decide +kernel
theorem d_T_number_16 : decode m_T_number.2.1 16 = .ok (.athrow, 1) := by decide +kernel
theorem d_T_number_17 : decode m_T_number.2.1 17 = .ok (.aload_n 0, 1) := by decide +kernel
theorem d_T_number_18 : decode m_T_number.2.1 18 = .ok (.getfield 18, 3) := by decide +kernel
theorem d_T_number_21 : decode m_T_number.2.1 21 = .ok (.iload_n 1, 1) := by decide +kernel
theorem d_T_number_22 : decode m_T_number.2.1 22 = .ok (.invokevirtual 57, 3) := by decide +kernel
theorem d_T_number_25 : decode m_T_number.2.1 25 = .ok (.ifCond .ne 13, 3) := by decide +kernel
theorem d_T_number_28 : decode m_T_number.2.1 28 = .ok (.new 60, 3) := by decide +kernel
theorem d_T_number_31 : decode m_T_number.2.1 31 = .ok (.dup, 1) := by decide +kernel
theorem d_T_number_32 : decode m_T_number.2.1 32 = .ok (.ldc 200, 2) := by decide +kernel
theorem d_T_number_34 : decode m_T_number.2.1 34 = .ok (.invokespecial 64, 3) := by decide +kernel
theorem d_T_number_37 : decode m_T_number.2.1 37 = .ok (.athrow, 1) := by decide +kernel
theorem d_T_number_38 : decode m_T_number.2.1 38 = .ok (.return_, 1) := by decide +kernel
theorem d_T_track_0 : decode m_T_track.2.1 0 = .ok (.aload_n 0, 1) := by decide +kernel
theorem d_T_track_1 : decode m_T_track.2.1 1 = .ok (.aload_n 0, 1) := by decide +kernel
theorem d_T_track_2 : decode m_T_track.2.1 2 = .ok (.invokevirtual 115, 3) := by decide +kernel
theorem d_T_track_5 : decode m_T_track.2.1 5 = .ok (.invokevirtual 202, 3) := by decide +kernel
theorem d_T_track_8 : decode m_T_track.2.1 8 = .ok (.istore_n 1, 1) := by decide +kernel
theorem d_T_track_9 : decode m_T_track.2.1 9 = .ok (.aload_n 0, 1) := by decide +kernel
theorem d_T_track_10 : decode m_T_track.2.1 10 = .ok (.getfield 18, 3) := by decide +kernel
theorem d_T_track_13 : decode m_T_track.2.1 13 = .ok (.invokevirtual 75, 3) := by decide +kernel
theorem d_T_track_16 : decode m_T_track.2.1 16 = .ok (.iload_n 1, 1) := by decide +kernel
theorem d_T_track_17 : decode m_T_track.2.1 17 = .ok (.ireturn, 1) := by decide +kernel
theorem d_T_labelVerdict_0 : decode m_T_labelVerdict.2.1 0 = .ok (.aload_n 0, 1) := by decide +kernel
theorem d_T_labelVerdict_1 : decode m_T_labelVerdict.2.1 1 = .ok (.getfield 18, 3) := by decide +kernel
theorem d_T_labelVerdict_4 : decode m_T_labelVerdict.2.1 4 = .ok (.getfield 185, 3) := by decide +kernel
theorem d_T_labelVerdict_7 : decode m_T_labelVerdict.2.1 7 = .ok (.bipush 8, 2) := by decide +kernel
theorem d_T_labelVerdict_9 : decode m_T_labelVerdict.2.1 9 = .ok (.if_icmp .eq 5, 3) := by decide +kernel
theorem d_T_labelVerdict_12 : decode m_T_labelVerdict.2.1 12 = .ok (.iconst (-1), 1) := by decide +kernel
theorem d_T_labelVerdict_13 : decode m_T_labelVerdict.2.1 13 = .ok (.ireturn, 1) := by decide +kernel
theorem d_T_labelVerdict_14 : decode m_T_labelVerdict.2.1 14 = .ok (.aload_n 0, 1) := by decide +kernel
theorem d_T_labelVerdict_15 : decode m_T_labelVerdict.2.1 15 = .ok (.invokevirtual 236, 3) := by decide +kernel
theorem d_T_labelVerdict_18 : decode m_T_labelVerdict.2.1 18 = .ok (.ifCond .ne 6, 3) := by decide +kernel
theorem d_T_labelVerdict_21 : decode m_T_labelVerdict.2.1 21 = .ok (.bipush (-2), 2) := by decide +kernel
theorem d_T_labelVerdict_23 : decode m_T_labelVerdict.2.1 23 = .ok (.ireturn, 1) := by decide +kernel
theorem d_T_labelVerdict_24 : decode m_T_labelVerdict.2.1 24 = .ok (.aload_n 1, 1) := by decide +kernel
theorem d_T_labelVerdict_25 : decode m_T_labelVerdict.2.1 25 = .ok (.aload_n 0, 1) := by decide +kernel
theorem d_T_labelVerdict_26 : decode m_T_labelVerdict.2.1 26 = .ok (.getfield 18, 3) := by decide +kernel
theorem d_T_labelVerdict_29 : decode m_T_labelVerdict.2.1 29 = .ok (.iconst 0, 1) := by decide +kernel
theorem d_T_labelVerdict_30 : decode m_T_labelVerdict.2.1 30 = .ok (.invokevirtual 193, 3) := by decide +kernel
theorem d_T_labelVerdict_33 : decode m_T_labelVerdict.2.1 33 = .ok (.invokevirtual 148, 3) := by decide +kernel
theorem d_T_labelVerdict_36 : decode m_T_labelVerdict.2.1 36 = .ok (.astore_n 2, 1) := by decide +kernel
theorem d_T_labelVerdict_37 : decode m_T_labelVerdict.2.1 37 = .ok (.aload_n 2, 1) := by decide +kernel
theorem d_T_labelVerdict_38 : decode m_T_labelVerdict.2.1 38 = .ok (.ifnonnull 6, 3) := by decide +kernel
theorem d_T_labelVerdict_41 : decode m_T_labelVerdict.2.1 41 = .ok (.bipush (-3), 2) := by decide +kernel
theorem d_T_labelVerdict_43 : decode m_T_labelVerdict.2.1 43 = .ok (.ireturn, 1) := by decide +kernel
theorem d_T_labelVerdict_44 : decode m_T_labelVerdict.2.1 44 = .ok (.aload_n 0, 1) := by decide +kernel
theorem d_T_labelVerdict_45 : decode m_T_labelVerdict.2.1 45 = .ok (.getfield 18, 3) := by decide +kernel
theorem d_T_labelVerdict_48 : decode m_T_labelVerdict.2.1 48 = .ok (.iconst 1, 1) := by decide +kernel
theorem d_T_labelVerdict_49 : decode m_T_labelVerdict.2.1 49 = .ok (.invokevirtual 193, 3) := by decide +kernel
theorem d_T_labelVerdict_52 : decode m_T_labelVerdict.2.1 52 = .ok (.bipush 48, 2) := by decide +kernel
theorem d_T_labelVerdict_54 : decode m_T_labelVerdict.2.1 54 = .ok (.isub, 1) := by decide +kernel
theorem d_T_labelVerdict_55 : decode m_T_labelVerdict.2.1 55 = .ok (.istore_n 3, 1) := by decide +kernel
theorem d_T_labelVerdict_56 : decode m_T_labelVerdict.2.1 56 = .ok (.iload_n 3, 1) := by decide +kernel
theorem d_T_labelVerdict_57 : decode m_T_labelVerdict.2.1 57 = .ok (.aload_n 1, 1) := by decide +kernel
theorem d_T_labelVerdict_58 : decode m_T_labelVerdict.2.1 58 = .ok (.aload_n 0, 1) := by decide +kernel
theorem d_T_labelVerdict_59 : decode m_T_labelVerdict.2.1 59 = .ok (.invokevirtual 239, 3) := by decide +kernel
theorem d_T_labelVerdict_62 : decode m_T_labelVerdict.2.1 62 = .ok (.invokevirtual 162, 3) := by decide +kernel
theorem d_T_labelVerdict_65 : decode m_T_labelVerdict.2.1 65 = .ok (.if_icmp .ne 11, 3) := by decide +kernel
theorem d_T_labelVerdict_68 : decode m_T_labelVerdict.2.1 68 = .ok (.aload_n 2, 1) := by decide +kernel
theorem d_T_labelVerdict_69 : decode m_T_labelVerdict.2.1 69 = .ok (.iload_n 3, 1) := by decide +kernel
theorem d_T_labelVerdict_70 : decode m_T_labelVerdict.2.1 70 = .ok (.invokevirtual 178, 3) := by decide +kernel
theorem d_T_labelVerdict_73 : decode m_T_labelVerdict.2.1 73 = .ok (.ifCond .ne 6, 3) := by decide +kernel
theorem d_T_labelVerdict_76 : decode m_T_labelVerdict.2.1 76 = .ok (.bipush (-4), 2) := by decide +kernel
theorem d_T_labelVerdict_78 : decode m_T_labelVerdict.2.1 78 = .ok (.ireturn, 1) := by decide +kernel
theorem d_T_labelVerdict_79 : decode m_T_labelVerdict.2.1 79 = .ok (.aload_n 0, 1) := by decide +kernel
theorem d_T_labelVerdict_80 : decode m_T_labelVerdict.2.1 80 = .ok (.getfield 18, 3) := by decide +kernel
theorem d_T_labelVerdict_83 : decode m_T_labelVerdict.2.1 83 = .ok (.bipush 7, 2) := by decide +kernel
theorem d_T_labelVerdict_85 : decode m_T_labelVerdict.2.1 85 = .ok (.invokevirtual 193, 3) := by decide +kernel
theorem d_T_labelVerdict_88 : decode m_T_labelVerdict.2.1 88 = .ok (.aload_n 0, 1) := by decide +kernel
theorem d_T_labelVerdict_89 : decode m_T_labelVerdict.2.1 89 = .ok (.getfield 18, 3) := by decide +kernel
theorem d_T_labelVerdict_92 : decode m_T_labelVerdict.2.1 92 = .ok (.invokestatic 232, 3) := by decide +kernel
theorem d_T_labelVerdict_95 : decode m_T_labelVerdict.2.1 95 = .ok (.if_icmp .ne 7, 3) := by decide +kernel
theorem d_T_labelVerdict_98 : decode m_T_labelVerdict.2.1 98 = .ok (.iconst 1, 1) := by decide +kernel
theorem d_T_labelVerdict_99 : decode m_T_labelVerdict.2.1 99 = .ok (.goto 5, 3) := by decide +kernel
theorem d_T_labelVerdict_102 : decode m_T_labelVerdict.2.1 102 = .ok (.bipush (-5), 2) := by decide +kernel
theorem d_T_labelVerdict_104 : decode m_T_labelVerdict.2.1 104 = .ok (.ireturn, 1) := by decide +kernel
theorem d_T_hasLabelForm_0 : decode m_T_hasLabelForm.2.1 0 = .ok (.iconst 3, 1) := by decide +kernel
theorem d_T_hasLabelForm_1 : decode m_T_hasLabelForm.2.1 1 = .ok (.istore_n 1, 1) := by decide +kernel
theorem d_T_hasLabelForm_2 : decode m_T_hasLabelForm.2.1 2 = .ok (.iload_n 1, 1) := by decide +kernel
theorem d_T_hasLabelForm_3 : decode m_T_hasLabelForm.2.1 3 = .ok (.bipush 7, 2) := by decide +kernel
theorem d_T_hasLabelForm_5 : decode m_T_hasLabelForm.2.1 5 = .ok (.if_icmp .ge 25, 3) := by decide +kernel
theorem d_T_hasLabelForm_8 : decode m_T_hasLabelForm.2.1 8 = .ok (.aload_n 0, 1) := by decide +kernel
theorem d_T_hasLabelForm_9 : decode m_T_hasLabelForm.2.1 9 = .ok (.getfield 18, 3) := by decide +kernel
theorem d_T_hasLabelForm_12 : decode m_T_hasLabelForm.2.1 12 = .ok (.iload_n 1, 1) := by decide +kernel
theorem d_T_hasLabelForm_13 : decode m_T_hasLabelForm.2.1 13 = .ok (.invokevirtual 193, 3) := by decide +kernel
theorem d_T_hasLabelForm_16 : decode m_T_hasLabelForm.2.1 16 = .ok (.invokestatic 242, 3) := by decide +kernel
theorem d_T_hasLabelForm_19 : decode m_T_hasLabelForm.2.1 19 = .ok (.ifCond .ne 5, 3) := by decide +kernel
theorem d_T_hasLabelForm_22 : decode m_T_hasLabelForm.2.1 22 = .ok (.iconst 0, 1) := by decide +kernel
theorem d_T_hasLabelForm_23 : decode m_T_hasLabelForm.2.1 23 = .ok (.ireturn, 1) := by decide +kernel
theorem d_T_hasLabelForm_24 : decode m_T_hasLabelForm.2.1 24 = .ok (.iinc 1 1, 3) := by decide +kernel
theorem d_T_hasLabelForm_27 : decode m_T_hasLabelForm.2.1 27 = .ok (.goto (-25), 3) := by decide +kernel
theorem d_T_hasLabelForm_30 : decode m_T_hasLabelForm.2.1 30 = .ok (.aload_n 0, 1) := by decide +kernel
theorem d_T_hasLabelForm_31 : decode m_T_hasLabelForm.2.1 31 = .ok (.getfield 18, 3) := by decide +kernel
theorem d_T_hasLabelForm_34 : decode m_T_hasLabelForm.2.1 34 = .ok (.iconst 0, 1) := by decide +kernel
theorem d_T_hasLabelForm_35 : decode m_T_hasLabelForm.2.1 35 = .ok (.invokevirtual 193, 3) := by decide +kernel
theorem d_T_hasLabelForm_38 : decode m_T_hasLabelForm.2.1 38 = .ok (.invokestatic 245, 3) := by decide +kernel
theorem d_T_hasLabelForm_41 : decode m_T_hasLabelForm.2.1 41 = .ok (.ifCond .eq 53, 3) := by decide +kernel
theorem d_T_hasLabelForm_44 : decode m_T_hasLabelForm.2.1 44 = .ok (.aload_n 0, 1) := by decide +kernel
theorem d_T_hasLabelForm_45 : decode m_T_hasLabelForm.2.1 45 = .ok (.getfield 18, 3) := by decide +kernel
theorem d_T_hasLabelForm_48 : decode m_T_hasLabelForm.2.1 48 = .ok (.iconst 1, 1) := by decide +kernel
theorem d_T_hasLabelForm_49 : decode m_T_hasLabelForm.2.1 49 = .ok (.invokevirtual 193, 3) := by decide +kernel
theorem d_T_hasLabelForm_52 : decode m_T_hasLabelForm.2.1 52 = .ok (.bipush 49, 2) := by decide +kernel
theorem d_T_hasLabelForm_54 : decode m_T_hasLabelForm.2.1 54 = .ok (.bipush 57, 2) := by decide +kernel
theorem d_T_hasLabelForm_56 : decode m_T_hasLabelForm.2.1 56 = .ok (.invokestatic 65, 3) := by decide +kernel
theorem d_T_hasLabelForm_59 : decode m_T_hasLabelForm.2.1 59 = .ok (.ifCond .eq 35, 3) := by decide +kernel
theorem d_T_hasLabelForm_62 : decode m_T_hasLabelForm.2.1 62 = .ok (.aload_n 0, 1) := by decide +kernel
theorem d_T_hasLabelForm_63 : decode m_T_hasLabelForm.2.1 63 = .ok (.getfield 18, 3) := by decide +kernel
theorem d_T_hasLabelForm_66 : decode m_T_hasLabelForm.2.1 66 = .ok (.iconst 2, 1) := by decide +kernel
theorem d_T_hasLabelForm_67 : decode m_T_hasLabelForm.2.1 67 = .ok (.invokevirtual 193, 3) := by decide +kernel
theorem d_T_hasLabelForm_70 : decode m_T_hasLabelForm.2.1 70 = .ok (.bipush 45, 2) := by decide +kernel
theorem d_T_hasLabelForm_72 : decode m_T_hasLabelForm.2.1 72 = .ok (.if_icmp .ne 22, 3) := by decide +kernel
theorem d_T_hasLabelForm_75 : decode m_T_hasLabelForm.2.1 75 = .ok (.aload_n 0, 1) := by decide +kernel
theorem d_T_hasLabelForm_76 : decode m_T_hasLabelForm.2.1 76 = .ok (.getfield 18, 3) := by decide +kernel
theorem d_T_hasLabelForm_79 : decode m_T_hasLabelForm.2.1 79 = .ok (.bipush 7, 2) := by decide +kernel
theorem d_T_hasLabelForm_81 : decode m_T_hasLabelForm.2.1 81 = .ok (.invokevirtual 193, 3) := by decide +kernel
theorem d_T_hasLabelForm_84 : decode m_T_hasLabelForm.2.1 84 = .ok (.invokestatic 245, 3) := by decide +kernel
theorem d_T_hasLabelForm_87 : decode m_T_hasLabelForm.2.1 87 = .ok (.ifCond .eq 7, 3) := by decide +kernel
theorem d_T_hasLabelForm_90 : decode m_T_hasLabelForm.2.1 90 = .ok (.iconst 1, 1) := by decide +kernel
theorem d_T_hasLabelForm_91 : decode m_T_hasLabelForm.2.1 91 = .ok (.goto 4, 3) := by decide +kernel
theorem d_T_hasLabelForm_94 : decode m_T_hasLabelForm.2.1 94 = .ok (.iconst 0, 1) := by decide +kernel
theorem d_T_hasLabelForm_95 : decode m_T_hasLabelForm.2.1 95 = .ok (.ireturn, 1) := by decide +kernel
theorem d_T_labelCode_0 : decode m_T_labelCode.2.1 0 = .ok (.iconst 0, 1) := by decide +kernel
theorem d_T_labelCode_1 : decode m_T_labelCode.2.1 1 = .ok (.istore_n 1, 1) := by decide +kernel
theorem d_T_labelCode_2 : decode m_T_labelCode.2.1 2 = .ok (.iconst 3, 1) := by decide +kernel
theorem d_T_labelCode_3 : decode m_T_labelCode.2.1 3 = .ok (.istore_n 2, 1) := by decide +kernel
theorem d_T_labelCode_4 : decode m_T_labelCode.2.1 4 = .ok (.iload_n 2, 1) := by decide +kernel
theorem d_T_labelCode_5 : decode m_T_labelCode.2.1 5 = .ok (.bipush 7, 2) := by decide +kernel
theorem d_T_labelCode_7 : decode m_T_labelCode.2.1 7 = .ok (.if_icmp .ge 26, 3) := by decide +kernel
theorem d_T_labelCode_10 : decode m_T_labelCode.2.1 10 = .ok (.iload_n 1, 1) := by decide +kernel
theorem d_T_labelCode_11 : decode m_T_labelCode.2.1 11 = .ok (.bipush 10, 2) := by decide +kernel
theorem d_T_labelCode_13 : decode m_T_labelCode.2.1 13 = .ok (.imul, 1) := by decide +kernel
theorem d_T_labelCode_14 : decode m_T_labelCode.2.1 14 = .ok (.aload_n 0, 1) := by decide +kernel
theorem d_T_labelCode_15 : decode m_T_labelCode.2.1 15 = .ok (.getfield 18, 3) := by decide +kernel
theorem d_T_labelCode_18 : decode m_T_labelCode.2.1 18 = .ok (.iload_n 2, 1) := by decide +kernel
theorem d_T_labelCode_19 : decode m_T_labelCode.2.1 19 = .ok (.invokevirtual 193, 3) := by decide +kernel
theorem d_T_labelCode_22 : decode m_T_labelCode.2.1 22 = .ok (.iadd, 1) := by decide +kernel
theorem d_T_labelCode_23 : decode m_T_labelCode.2.1 23 = .ok (.bipush 48, 2) := by decide +kernel
theorem d_T_labelCode_25 : decode m_T_labelCode.2.1 25 = .ok (.isub, 1) := by decide +kernel
theorem d_T_labelCode_26 : decode m_T_labelCode.2.1 26 = .ok (.istore_n 1, 1) := by decide +kernel
theorem d_T_labelCode_27 : decode m_T_labelCode.2.1 27 = .ok (.iinc 2 1, 3) := by decide +kernel
theorem d_T_labelCode_30 : decode m_T_labelCode.2.1 30 = .ok (.goto (-26), 3) := by decide +kernel
theorem d_T_labelCode_33 : decode m_T_labelCode.2.1 33 = .ok (.iload_n 1, 1) := by decide +kernel
theorem d_T_labelCode_34 : decode m_T_labelCode.2.1 34 = .ok (.ireturn, 1) := by decide +kernel
theorem d_T_told_0 : decode m_T_told.2.1 0 = .ok (.aload_n 0, 1) := by decide +kernel
theorem d_T_told_1 : decode m_T_told.2.1 1 = .ok (.iload_n 1, 1) := by decide +kernel
theorem d_T_told_2 : decode m_T_told.2.1 2 = .ok (.invokevirtual 186, 3) := by decide +kernel
theorem d_T_told_5 : decode m_T_told.2.1 5 = .ok (.astore_n 3, 1) := by decide +kernel
theorem d_T_told_6 : decode m_T_told.2.1 6 = .ok (.iload_n 2, 1) := by decide +kernel
theorem d_T_told_7 : decode m_T_told.2.1 7 = .ok (.tableswitch 49 0 3 #[29, 34, 39, 44], 29) := by decide +kernel
theorem d_T_told_36 : decode m_T_told.2.1 36 = .ok (.aload_n 3, 1) := by decide +kernel
theorem d_T_told_37 : decode m_T_told.2.1 37 = .ok (.getfield 206, 3) := by decide +kernel
theorem d_T_told_40 : decode m_T_told.2.1 40 = .ok (.ireturn, 1) := by decide +kernel
theorem d_T_told_41 : decode m_T_told.2.1 41 = .ok (.aload_n 3, 1) := by decide +kernel
theorem d_T_told_42 : decode m_T_told.2.1 42 = .ok (.getfield 118, 3) := by decide +kernel
theorem d_T_told_45 : decode m_T_told.2.1 45 = .ok (.ireturn, 1) := by decide +kernel
theorem d_T_told_46 : decode m_T_told.2.1 46 = .ok (.aload_n 3, 1) := by decide +kernel
theorem d_T_told_47 : decode m_T_told.2.1 47 = .ok (.getfield 209, 3) := by decide +kernel
theorem d_T_told_50 : decode m_T_told.2.1 50 = .ok (.ireturn, 1) := by decide +kernel
theorem d_T_told_51 : decode m_T_told.2.1 51 = .ok (.aload_n 3, 1) := by decide +kernel
theorem d_T_told_52 : decode m_T_told.2.1 52 = .ok (.invokevirtual 212, 3) := by decide +kernel
theorem d_T_told_55 : decode m_T_told.2.1 55 = .ok (.ireturn, 1) := by decide +kernel
theorem d_T_told_56 : decode m_T_told.2.1 56 = .ok (.new 50, 3) := by decide +kernel
theorem d_T_told_59 : decode m_T_told.2.1 59 = .ok (.dup, 1) := by decide +kernel
theorem d_T_told_60 : decode m_T_told.2.1 60 = .ok (.ldc 215, 2) := by decide +kernel
theorem d_T_told_62 : decode m_T_told.2.1 62 = .ok (.invokespecial 54, 3) := by decide +kernel
theorem d_T_told_65 : decode m_T_told.2.1 65 = .ok (.athrow, 1) := by decide +kernel
