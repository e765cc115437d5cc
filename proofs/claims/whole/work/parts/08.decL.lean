theorem d_L_sign_0 : decode m_L_sign.2.1 0 = .ok (.aload_n 0, 1) := by decide +kernel
theorem d_L_sign_1 : decode m_L_sign.2.1 1 = .ok (.iload_n 1, 1) := by decide +kernel
theorem d_L_sign_2 : decode m_L_sign.2.1 2 = .ok (.invokevirtual 7, 3) := by decide +kernel
theorem d_L_sign_5 : decode m_L_sign.2.1 5 = .ok (.goto 9, 3) := by decide +kernel
theorem d_L_sign_8 : decode m_L_sign.2.1 8 = .ok (.astore_n 2, 1) := by decide +kernel
theorem d_L_sign_9 : decode m_L_sign.2.1 9 = .ok (.iconst 1, 1) := by decide +kernel
theorem d_L_sign_10 : decode m_L_sign.2.1 10 = .ok (.ireturn, 1) := by decide +kernel
theorem d_L_sign_11 : decode m_L_sign.2.1 11 = .ok (.astore_n 2, 1) := by decide +kernel
theorem d_L_sign_12 : decode m_L_sign.2.1 12 = .ok (.iconst 2, 1) := by decide +kernel
theorem d_L_sign_13 : decode m_L_sign.2.1 13 = .ok (.ireturn, 1) := by decide +kernel
theorem d_L_sign_14 : decode m_L_sign.2.1 14 = .ok (.iconst 0, 1) := by decide +kernel
theorem d_L_sign_15 : decode m_L_sign.2.1 15 = .ok (.ireturn, 1) := by decide +kernel
theorem d_L_read_0 : decode m_L_read.2.1 0 = .ok (.aload_n 2, 1) := by decide +kernel
theorem d_L_read_1 : decode m_L_read.2.1 1 = .ok (.iconst 0, 1) := by decide +kernel
theorem d_L_read_2 : decode m_L_read.2.1 2 = .ok (.aload_n 0, 1) := by decide +kernel
theorem d_L_read_3 : decode m_L_read.2.1 3 = .ok (.iload_n 1, 1) := by decide +kernel
theorem d_L_read_4 : decode m_L_read.2.1 4 = .ok (.invokevirtual 17, 3) := by decide +kernel
theorem d_L_read_7 : decode m_L_read.2.1 7 = .ok (.i2l, 1) := by decide +kernel
theorem d_L_read_8 : decode m_L_read.2.1 8 = .ok (.lastore, 1) := by decide +kernel
theorem d_L_read_9 : decode m_L_read.2.1 9 = .ok (.goto 9, 3) := by decide +kernel
theorem d_L_read_12 : decode m_L_read.2.1 12 = .ok (.astore_n 3, 1) := by decide +kernel
theorem d_L_read_13 : decode m_L_read.2.1 13 = .ok (.iconst 1, 1) := by decide +kernel
theorem d_L_read_14 : decode m_L_read.2.1 14 = .ok (.ireturn, 1) := by decide +kernel
theorem d_L_read_15 : decode m_L_read.2.1 15 = .ok (.astore_n 3, 1) := by decide +kernel
theorem d_L_read_16 : decode m_L_read.2.1 16 = .ok (.iconst 2, 1) := by decide +kernel
theorem d_L_read_17 : decode m_L_read.2.1 17 = .ok (.ireturn, 1) := by decide +kernel
theorem d_L_read_18 : decode m_L_read.2.1 18 = .ok (.iconst 0, 1) := by decide +kernel
theorem d_L_read_19 : decode m_L_read.2.1 19 = .ok (.ireturn, 1) := by decide +kernel
theorem d_L_today_0 : decode m_L_today.2.1 0 = .ok (.aload_n 2, 1) := by decide +kernel
theorem d_L_today_1 : decode m_L_today.2.1 1 = .ok (.iconst 0, 1) := by decide +kernel
theorem d_L_today_2 : decode m_L_today.2.1 2 = .ok (.aload_n 0, 1) := by decide +kernel
theorem d_L_today_3 : decode m_L_today.2.1 3 = .ok (.iload_n 1, 1) := by decide +kernel
theorem d_L_today_4 : decode m_L_today.2.1 4 = .ok (.invokevirtual 21, 3) := by decide +kernel
theorem d_L_today_7 : decode m_L_today.2.1 7 = .ok (.i2l, 1) := by decide +kernel
theorem d_L_today_8 : decode m_L_today.2.1 8 = .ok (.lastore, 1) := by decide +kernel
theorem d_L_today_9 : decode m_L_today.2.1 9 = .ok (.goto 6, 3) := by decide +kernel
theorem d_L_today_12 : decode m_L_today.2.1 12 = .ok (.astore_n 3, 1) := by decide +kernel
theorem d_L_today_13 : decode m_L_today.2.1 13 = .ok (.iconst 1, 1) := by decide +kernel
theorem d_L_today_14 : decode m_L_today.2.1 14 = .ok (.ireturn, 1) := by decide +kernel
theorem d_L_today_15 : decode m_L_today.2.1 15 = .ok (.iconst 0, 1) := by decide +kernel
theorem d_L_today_16 : decode m_L_today.2.1 16 = .ok (.ireturn, 1) := by decide +kernel
theorem d_L_fits_0 : decode m_L_fits.2.1 0 = .ok (.aload 5, 2) := by decide +kernel
theorem d_L_fits_2 : decode m_L_fits.2.1 2 = .ok (.iconst 0, 1) := by decide +kernel
theorem d_L_fits_3 : decode m_L_fits.2.1 3 = .ok (.aload_n 0, 1) := by decide +kernel
theorem d_L_fits_4 : decode m_L_fits.2.1 4 = .ok (.iload_n 1, 1) := by decide +kernel
theorem d_L_fits_5 : decode m_L_fits.2.1 5 = .ok (.iload_n 2, 1) := by decide +kernel
theorem d_L_fits_6 : decode m_L_fits.2.1 6 = .ok (.iload_n 3, 1) := by decide +kernel
theorem d_L_fits_7 : decode m_L_fits.2.1 7 = .ok (.iload 4, 2) := by decide +kernel
theorem d_L_fits_9 : decode m_L_fits.2.1 9 = .ok (.invokevirtual 24, 3) := by decide +kernel
theorem d_L_fits_12 : decode m_L_fits.2.1 12 = .ok (.i2l, 1) := by decide +kernel
theorem d_L_fits_13 : decode m_L_fits.2.1 13 = .ok (.lastore, 1) := by decide +kernel
theorem d_L_fits_14 : decode m_L_fits.2.1 14 = .ok (.goto 11, 3) := by decide +kernel
theorem d_L_fits_17 : decode m_L_fits.2.1 17 = .ok (.astore 6, 2) := by decide +kernel
theorem d_L_fits_19 : decode m_L_fits.2.1 19 = .ok (.iconst 1, 1) := by decide +kernel
theorem d_L_fits_20 : decode m_L_fits.2.1 20 = .ok (.ireturn, 1) := by decide +kernel
theorem d_L_fits_21 : decode m_L_fits.2.1 21 = .ok (.astore 6, 2) := by decide +kernel
theorem d_L_fits_23 : decode m_L_fits.2.1 23 = .ok (.iconst 2, 1) := by decide +kernel
theorem d_L_fits_24 : decode m_L_fits.2.1 24 = .ok (.ireturn, 1) := by decide +kernel
theorem d_L_fits_25 : decode m_L_fits.2.1 25 = .ok (.iconst 0, 1) := by decide +kernel
theorem d_L_fits_26 : decode m_L_fits.2.1 26 = .ok (.ireturn, 1) := by decide +kernel
theorem d_L_price_0 : decode m_L_price.2.1 0 = .ok (.aload_n 3, 1) := by decide +kernel
theorem d_L_price_1 : decode m_L_price.2.1 1 = .ok (.iconst 0, 1) := by decide +kernel
theorem d_L_price_2 : decode m_L_price.2.1 2 = .ok (.aload_n 0, 1) := by decide +kernel
theorem d_L_price_3 : decode m_L_price.2.1 3 = .ok (.iload_n 1, 1) := by decide +kernel
theorem d_L_price_4 : decode m_L_price.2.1 4 = .ok (.iload_n 2, 1) := by decide +kernel
theorem d_L_price_5 : decode m_L_price.2.1 5 = .ok (.invokevirtual 30, 3) := by decide +kernel
theorem d_L_price_8 : decode m_L_price.2.1 8 = .ok (.i2l, 1) := by decide +kernel
theorem d_L_price_9 : decode m_L_price.2.1 9 = .ok (.lastore, 1) := by decide +kernel
theorem d_L_price_10 : decode m_L_price.2.1 10 = .ok (.goto 15, 3) := by decide +kernel
theorem d_L_price_13 : decode m_L_price.2.1 13 = .ok (.astore 4, 2) := by decide +kernel
theorem d_L_price_15 : decode m_L_price.2.1 15 = .ok (.iconst 1, 1) := by decide +kernel
theorem d_L_price_16 : decode m_L_price.2.1 16 = .ok (.ireturn, 1) := by decide +kernel
theorem d_L_price_17 : decode m_L_price.2.1 17 = .ok (.astore 4, 2) := by decide +kernel
theorem d_L_price_19 : decode m_L_price.2.1 19 = .ok (.iconst 2, 1) := by decide +kernel
theorem d_L_price_20 : decode m_L_price.2.1 20 = .ok (.ireturn, 1) := by decide +kernel
theorem d_L_price_21 : decode m_L_price.2.1 21 = .ok (.astore 4, 2) := by decide +kernel
theorem d_L_price_23 : decode m_L_price.2.1 23 = .ok (.iconst 3, 1) := by decide +kernel
theorem d_L_price_24 : decode m_L_price.2.1 24 = .ok (.ireturn, 1) := by decide +kernel
theorem d_L_price_25 : decode m_L_price.2.1 25 = .ok (.iconst 0, 1) := by decide +kernel
theorem d_L_price_26 : decode m_L_price.2.1 26 = .ok (.ireturn, 1) := by decide +kernel
theorem d_L_zone_0 : decode m_L_zone.2.1 0 = .ok (.aload_n 2, 1) := by decide +kernel
theorem d_L_zone_1 : decode m_L_zone.2.1 1 = .ok (.iconst 0, 1) := by decide +kernel
theorem d_L_zone_2 : decode m_L_zone.2.1 2 = .ok (.aload_n 0, 1) := by decide +kernel
theorem d_L_zone_3 : decode m_L_zone.2.1 3 = .ok (.iload_n 1, 1) := by decide +kernel
theorem d_L_zone_4 : decode m_L_zone.2.1 4 = .ok (.invokevirtual 36, 3) := by decide +kernel
theorem d_L_zone_7 : decode m_L_zone.2.1 7 = .ok (.i2l, 1) := by decide +kernel
theorem d_L_zone_8 : decode m_L_zone.2.1 8 = .ok (.lastore, 1) := by decide +kernel
theorem d_L_zone_9 : decode m_L_zone.2.1 9 = .ok (.goto 9, 3) := by decide +kernel
theorem d_L_zone_12 : decode m_L_zone.2.1 12 = .ok (.astore_n 3, 1) := by decide +kernel
theorem d_L_zone_13 : decode m_L_zone.2.1 13 = .ok (.iconst 1, 1) := by decide +kernel
theorem d_L_zone_14 : decode m_L_zone.2.1 14 = .ok (.ireturn, 1) := by decide +kernel
theorem d_L_zone_15 : decode m_L_zone.2.1 15 = .ok (.astore_n 3, 1) := by decide +kernel
theorem d_L_zone_16 : decode m_L_zone.2.1 16 = .ok (.iconst 2, 1) := by decide +kernel
theorem d_L_zone_17 : decode m_L_zone.2.1 17 = .ok (.ireturn, 1) := by decide +kernel
theorem d_L_zone_18 : decode m_L_zone.2.1 18 = .ok (.iconst 0, 1) := by decide +kernel
theorem d_L_zone_19 : decode m_L_zone.2.1 19 = .ok (.ireturn, 1) := by decide +kernel
theorem d_L_hours_0 : decode m_L_hours.2.1 0 = .ok (.aload_n 3, 1) := by decide +kernel
theorem d_L_hours_1 : decode m_L_hours.2.1 1 = .ok (.iconst 0, 1) := by decide +kernel
theorem d_L_hours_2 : decode m_L_hours.2.1 2 = .ok (.aload_n 0, 1) := by decide +kernel
theorem d_L_hours_3 : decode m_L_hours.2.1 3 = .ok (.iload_n 1, 1) := by decide +kernel
theorem d_L_hours_4 : decode m_L_hours.2.1 4 = .ok (.iload_n 2, 1) := by decide +kernel
theorem d_L_hours_5 : decode m_L_hours.2.1 5 = .ok (.invokevirtual 39, 3) := by decide +kernel
theorem d_L_hours_8 : decode m_L_hours.2.1 8 = .ok (.ifCond .eq 7, 3) := by decide +kernel
theorem d_L_hours_11 : decode m_L_hours.2.1 11 = .ok (.lconst 1, 1) := by decide +kernel
theorem d_L_hours_12 : decode m_L_hours.2.1 12 = .ok (.goto 4, 3) := by decide +kernel
theorem d_L_hours_15 : decode m_L_hours.2.1 15 = .ok (.lconst 0, 1) := by decide +kernel
theorem d_L_hours_16 : decode m_L_hours.2.1 16 = .ok (.lastore, 1) := by decide +kernel
theorem d_L_hours_17 : decode m_L_hours.2.1 17 = .ok (.goto 15, 3) := by decide +kernel
theorem d_L_hours_20 : decode m_L_hours.2.1 20 = .ok (.astore 4, 2) := by decide +kernel
theorem d_L_hours_22 : decode m_L_hours.2.1 22 = .ok (.iconst 1, 1) := by decide +kernel
theorem d_L_hours_23 : decode m_L_hours.2.1 23 = .ok (.ireturn, 1) := by decide +kernel
theorem d_L_hours_24 : decode m_L_hours.2.1 24 = .ok (.astore 4, 2) := by decide +kernel
theorem d_L_hours_26 : decode m_L_hours.2.1 26 = .ok (.iconst 2, 1) := by decide +kernel
theorem d_L_hours_27 : decode m_L_hours.2.1 27 = .ok (.ireturn, 1) := by decide +kernel
theorem d_L_hours_28 : decode m_L_hours.2.1 28 = .ok (.astore 4, 2) := by decide +kernel
theorem d_L_hours_30 : decode m_L_hours.2.1 30 = .ok (.iconst 3, 1) := by decide +kernel
theorem d_L_hours_31 : decode m_L_hours.2.1 31 = .ok (.ireturn, 1) := by decide +kernel
theorem d_L_hours_32 : decode m_L_hours.2.1 32 = .ok (.iconst 0, 1) := by decide +kernel
theorem d_L_hours_33 : decode m_L_hours.2.1 33 = .ok (.ireturn, 1) := by decide +kernel
theorem d_L_label_0 : decode m_L_label.2.1 0 = .ok (.aload_n 3, 1) := by decide +kernel
theorem d_L_label_1 : decode m_L_label.2.1 1 = .ok (.iconst 0, 1) := by decide +kernel
theorem d_L_label_2 : decode m_L_label.2.1 2 = .ok (.aload_n 0, 1) := by decide +kernel
theorem d_L_label_3 : decode m_L_label.2.1 3 = .ok (.iload_n 1, 1) := by decide +kernel
theorem d_L_label_4 : decode m_L_label.2.1 4 = .ok (.iload_n 2, 1) := by decide +kernel
theorem d_L_label_5 : decode m_L_label.2.1 5 = .ok (.invokevirtual 43, 3) := by decide +kernel
theorem d_L_label_8 : decode m_L_label.2.1 8 = .ok (.i2l, 1) := by decide +kernel
theorem d_L_label_9 : decode m_L_label.2.1 9 = .ok (.lastore, 1) := by decide +kernel
theorem d_L_label_10 : decode m_L_label.2.1 10 = .ok (.goto 15, 3) := by decide +kernel
theorem d_L_label_13 : decode m_L_label.2.1 13 = .ok (.astore 4, 2) := by decide +kernel
theorem d_L_label_15 : decode m_L_label.2.1 15 = .ok (.iconst 1, 1) := by decide +kernel
theorem d_L_label_16 : decode m_L_label.2.1 16 = .ok (.ireturn, 1) := by decide +kernel
theorem d_L_label_17 : decode m_L_label.2.1 17 = .ok (.astore 4, 2) := by decide +kernel
theorem d_L_label_19 : decode m_L_label.2.1 19 = .ok (.iconst 2, 1) := by decide +kernel
theorem d_L_label_20 : decode m_L_label.2.1 20 = .ok (.ireturn, 1) := by decide +kernel
theorem d_L_label_21 : decode m_L_label.2.1 21 = .ok (.astore 4, 2) := by decide +kernel
theorem d_L_label_23 : decode m_L_label.2.1 23 = .ok (.iconst 3, 1) := by decide +kernel
theorem d_L_label_24 : decode m_L_label.2.1 24 = .ok (.ireturn, 1) := by decide +kernel
theorem d_L_label_25 : decode m_L_label.2.1 25 = .ok (.iconst 0, 1) := by decide +kernel
theorem d_L_label_26 : decode m_L_label.2.1 26 = .ok (.ireturn, 1) := by decide +kernel
theorem d_L_print_0 : decode m_L_print.2.1 0 = .ok (.aload_n 3, 1) := by decide +kernel
theorem d_L_print_1 : decode m_L_print.2.1 1 = .ok (.iconst 0, 1) := by decide +kernel
theorem d_L_print_2 : decode m_L_print.2.1 2 = .ok (.aload_n 0, 1) := by decide +kernel
theorem d_L_print_3 : decode m_L_print.2.1 3 = .ok (.iload_n 1, 1) := by decide +kernel
theorem d_L_print_4 : decode m_L_print.2.1 4 = .ok (.iload_n 2, 1) := by decide +kernel
theorem d_L_print_5 : decode m_L_print.2.1 5 = .ok (.invokevirtual 46, 3) := by decide +kernel
theorem d_L_print_8 : decode m_L_print.2.1 8 = .ok (.i2l, 1) := by decide +kernel
theorem d_L_print_9 : decode m_L_print.2.1 9 = .ok (.lastore, 1) := by decide +kernel
theorem d_L_print_10 : decode m_L_print.2.1 10 = .ok (.goto 7, 3) := by decide +kernel
theorem d_L_print_13 : decode m_L_print.2.1 13 = .ok (.astore 4, 2) := by decide +kernel
theorem d_L_print_15 : decode m_L_print.2.1 15 = .ok (.iconst 1, 1) := by decide +kernel
theorem d_L_print_16 : decode m_L_print.2.1 16 = .ok (.ireturn, 1) := by decide +kernel
theorem d_L_print_17 : decode m_L_print.2.1 17 = .ok (.iconst 0, 1) := by decide +kernel
theorem d_L_print_18 : decode m_L_print.2.1 18 = .ok (.ireturn, 1) := by decide +kernel
theorem d_L_out_0 : decode m_L_out.2.1 0 = .ok (.aload_n 2, 1) := by decide +kernel
theorem d_L_out_1 : decode m_L_out.2.1 1 = .ok (.iconst 0, 1) := by decide +kernel
theorem d_L_out_2 : decode m_L_out.2.1 2 = .ok (.aload_n 0, 1) := by decide +kernel
theorem d_L_out_3 : decode m_L_out.2.1 3 = .ok (.iload_n 1, 1) := by decide +kernel
theorem d_L_out_4 : decode m_L_out.2.1 4 = .ok (.invokevirtual 49, 3) := by decide +kernel
theorem d_L_out_7 : decode m_L_out.2.1 7 = .ok (.i2l, 1) := by decide +kernel
theorem d_L_out_8 : decode m_L_out.2.1 8 = .ok (.lastore, 1) := by decide +kernel
theorem d_L_out_9 : decode m_L_out.2.1 9 = .ok (.goto 6, 3) := by decide +kernel
theorem d_L_out_12 : decode m_L_out.2.1 12 = .ok (.astore_n 3, 1) := by decide +kernel
theorem d_L_out_13 : decode m_L_out.2.1 13 = .ok (.iconst 1, 1) := by decide +kernel
theorem d_L_out_14 : decode m_L_out.2.1 14 = .ok (.ireturn, 1) := by decide +kernel
theorem d_L_out_15 : decode m_L_out.2.1 15 = .ok (.iconst 0, 1) := by decide +kernel
theorem d_L_out_16 : decode m_L_out.2.1 16 = .ok (.ireturn, 1) := by decide +kernel
theorem d_L_number_0 : decode m_L_number.2.1 0 = .ok (.aload_n 0, 1) := by decide +kernel
theorem d_L_number_1 : decode m_L_number.2.1 1 = .ok (.iload_n 1, 1) := by decide +kernel
theorem d_L_number_2 : decode m_L_number.2.1 2 = .ok (.invokevirtual 52, 3) := by decide +kernel
theorem d_L_number_5 : decode m_L_number.2.1 5 = .ok (.goto 9, 3) := by decide +kernel
theorem d_L_number_8 : decode m_L_number.2.1 8 = .ok (.astore_n 2, 1) := by decide +kernel
theorem d_L_number_9 : decode m_L_number.2.1 9 = .ok (.iconst 1, 1) := by decide +kernel
theorem d_L_number_10 : decode m_L_number.2.1 10 = .ok (.ireturn, 1) := by decide +kernel
theorem d_L_number_11 : decode m_L_number.2.1 11 = .ok (.astore_n 2, 1) := by decide +kernel
theorem d_L_number_12 : decode m_L_number.2.1 12 = .ok (.iconst 2, 1) := by decide +kernel
theorem d_L_number_13 : decode m_L_number.2.1 13 = .ok (.ireturn, 1) := by decide +kernel
theorem d_L_number_14 : decode m_L_number.2.1 14 = .ok (.iconst 0, 1) := by decide +kernel
theorem d_L_number_15 : decode m_L_number.2.1 15 = .ok (.ireturn, 1) := by decide +kernel
theorem d_L_track_0 : decode m_L_track.2.1 0 = .ok (.aload_n 1, 1) := by decide +kernel
theorem d_L_track_1 : decode m_L_track.2.1 1 = .ok (.iconst 0, 1) := by decide +kernel
theorem d_L_track_2 : decode m_L_track.2.1 2 = .ok (.aload_n 0, 1) := by decide +kernel
theorem d_L_track_3 : decode m_L_track.2.1 3 = .ok (.invokevirtual 55, 3) := by decide +kernel
theorem d_L_track_6 : decode m_L_track.2.1 6 = .ok (.i2l, 1) := by decide +kernel
theorem d_L_track_7 : decode m_L_track.2.1 7 = .ok (.lastore, 1) := by decide +kernel
theorem d_L_track_8 : decode m_L_track.2.1 8 = .ok (.goto 6, 3) := by decide +kernel
theorem d_L_track_11 : decode m_L_track.2.1 11 = .ok (.astore_n 2, 1) := by decide +kernel
theorem d_L_track_12 : decode m_L_track.2.1 12 = .ok (.iconst 1, 1) := by decide +kernel
theorem d_L_track_13 : decode m_L_track.2.1 13 = .ok (.ireturn, 1) := by decide +kernel
theorem d_L_track_14 : decode m_L_track.2.1 14 = .ok (.iconst 0, 1) := by decide +kernel
theorem d_L_track_15 : decode m_L_track.2.1 15 = .ok (.ireturn, 1) := by decide +kernel
theorem d_L_told_0 : decode m_L_told.2.1 0 = .ok (.aload_n 3, 1) := by decide +kernel
theorem d_L_told_1 : decode m_L_told.2.1 1 = .ok (.iconst 0, 1) := by decide +kernel
theorem d_L_told_2 : decode m_L_told.2.1 2 = .ok (.aload_n 0, 1) := by decide +kernel
theorem d_L_told_3 : decode m_L_told.2.1 3 = .ok (.iload_n 1, 1) := by decide +kernel
theorem d_L_told_4 : decode m_L_told.2.1 4 = .ok (.iload_n 2, 1) := by decide +kernel
theorem d_L_told_5 : decode m_L_told.2.1 5 = .ok (.invokevirtual 59, 3) := by decide +kernel
theorem d_L_told_8 : decode m_L_told.2.1 8 = .ok (.i2l, 1) := by decide +kernel
theorem d_L_told_9 : decode m_L_told.2.1 9 = .ok (.lastore, 1) := by decide +kernel
theorem d_L_told_10 : decode m_L_told.2.1 10 = .ok (.goto 11, 3) := by decide +kernel
theorem d_L_told_13 : decode m_L_told.2.1 13 = .ok (.astore 4, 2) := by decide +kernel
theorem d_L_told_15 : decode m_L_told.2.1 15 = .ok (.iconst 1, 1) := by decide +kernel
theorem d_L_told_16 : decode m_L_told.2.1 16 = .ok (.ireturn, 1) := by decide +kernel
theorem d_L_told_17 : decode m_L_told.2.1 17 = .ok (.astore 4, 2) := by decide +kernel
theorem d_L_told_19 : decode m_L_told.2.1 19 = .ok (.iconst 2, 1) := by decide +kernel
theorem d_L_told_20 : decode m_L_told.2.1 20 = .ok (.ireturn, 1) := by decide +kernel
theorem d_L_told_21 : decode m_L_told.2.1 21 = .ok (.iconst 0, 1) := by decide +kernel
theorem d_L_told_22 : decode m_L_told.2.1 22 = .ok (.ireturn, 1) := by decide +kernel
theorem d_L_law_0 : decode m_L_law.2.1 0 = .ok (.new 8, 3) := by decide +kernel
theorem d_L_law_3 : decode m_L_law.2.1 3 = .ok (.dup, 1) := by decide +kernel
theorem d_L_law_4 : decode m_L_law.2.1 4 = .ok (.invokespecial 62, 3) := by decide +kernel
theorem d_L_law_7 : decode m_L_law.2.1 7 = .ok (.astore_n 1, 1) := by decide +kernel
theorem d_L_law_8 : decode m_L_law.2.1 8 = .ok (.new 63, 3) := by decide +kernel
theorem d_L_law_11 : decode m_L_law.2.1 11 = .ok (.dup, 1) := by decide +kernel
theorem d_L_law_12 : decode m_L_law.2.1 12 = .ok (.invokespecial 65, 3) := by decide +kernel
theorem d_L_law_15 : decode m_L_law.2.1 15 = .ok (.astore_n 2, 1) := by decide +kernel
theorem d_L_law_16 : decode m_L_law.2.1 16 = .ok (.iconst 1, 1) := by decide +kernel
theorem d_L_law_17 : decode m_L_law.2.1 17 = .ok (.newarray .long, 2) := by decide +kernel
theorem d_L_law_19 : decode m_L_law.2.1 19 = .ok (.astore_n 3, 1) := by decide +kernel
theorem d_L_law_20 : decode m_L_law.2.1 20 = .ok (.iconst 0, 1) := by decide +kernel
theorem d_L_law_21 : decode m_L_law.2.1 21 = .ok (.istore 4, 2) := by decide +kernel
theorem d_L_law_23 : decode m_L_law.2.1 23 = .ok (.iload 4, 2) := by decide +kernel
theorem d_L_law_25 : decode m_L_law.2.1 25 = .ok (.aload_n 0, 1) := by decide +kernel
theorem d_L_law_26 : decode m_L_law.2.1 26 = .ok (.arraylength, 1) := by decide +kernel
theorem d_L_law_27 : decode m_L_law.2.1 27 = .ok (.iconst 5, 1) := by decide +kernel
theorem d_L_law_28 : decode m_L_law.2.1 28 = .ok (.isub, 1) := by decide +kernel
theorem d_L_law_29 : decode m_L_law.2.1 29 = .ok (.if_icmp .gt 918, 3) := by decide +kernel
theorem d_L_law_32 : decode m_L_law.2.1 32 = .ok (.aload_n 0, 1) := by decide +kernel
theorem d_L_law_33 : decode m_L_law.2.1 33 = .ok (.iload 4, 2) := by decide +kernel
theorem d_L_law_35 : decode m_L_law.2.1 35 = .ok (.iaload, 1) := by decide +kernel
theorem d_L_law_36 : decode m_L_law.2.1 36 = .ok (.bipush 15, 2) := by decide +kernel
theorem d_L_law_38 : decode m_L_law.2.1 38 = .ok (.iand, 1) := by decide +kernel
theorem d_L_law_39 : decode m_L_law.2.1 39 = .ok (.tableswitch 902 0 14 #[73, 109, 165, 221, 313, 338, 406, 462, 537, 605, 673, 729, 765, 809, 877], 73) := by decide +kernel
theorem d_L_law_112 : decode m_L_law.2.1 112 = .ok (.aload_n 1, 1) := by decide +kernel
theorem d_L_law_113 : decode m_L_law.2.1 113 = .ok (.aload_n 0, 1) := by decide +kernel
theorem d_L_law_114 : decode m_L_law.2.1 114 = .ok (.iload 4, 2) := by decide +kernel
theorem d_L_law_116 : decode m_L_law.2.1 116 = .ok (.iconst 1, 1) := by decide +kernel
theorem d_L_law_117 : decode m_L_law.2.1 117 = .ok (.iadd, 1) := by decide +kernel
theorem d_L_law_118 : decode m_L_law.2.1 118 = .ok (.iaload, 1) := by decide +kernel
theorem d_L_law_119 : decode m_L_law.2.1 119 = .ok (.invokestatic 66, 3) := by decide +kernel
theorem d_L_law_122 : decode m_L_law.2.1 122 = .ok (.istore 5, 2) := by decide +kernel
theorem d_L_law_124 : decode m_L_law.2.1 124 = .ok (.aload_n 2, 1) := by decide +kernel
theorem d_L_law_125 : decode m_L_law.2.1 125 = .ok (.aload_n 0, 1) := by decide +kernel
theorem d_L_law_126 : decode m_L_law.2.1 126 = .ok (.iload 4, 2) := by decide +kernel
theorem d_L_law_128 : decode m_L_law.2.1 128 = .ok (.iconst 1, 1) := by decide +kernel
theorem d_L_law_129 : decode m_L_law.2.1 129 = .ok (.iadd, 1) := by decide +kernel
theorem d_L_law_130 : decode m_L_law.2.1 130 = .ok (.iaload, 1) := by decide +kernel
theorem d_L_law_131 : decode m_L_law.2.1 131 = .ok (.invokevirtual 71, 3) := by decide +kernel
theorem d_L_law_134 : decode m_L_law.2.1 134 = .ok (.aload_n 2, 1) := by decide +kernel
theorem d_L_law_135 : decode m_L_law.2.1 135 = .ok (.invokevirtual 72, 3) := by decide +kernel
theorem d_L_law_138 : decode m_L_law.2.1 138 = .ok (.iload 5, 2) := by decide +kernel
theorem d_L_law_140 : decode m_L_law.2.1 140 = .ok (.if_icmp .eq 5, 3) := by decide +kernel
theorem d_L_law_143 : decode m_L_law.2.1 143 = .ok (.iconst 0, 1) := by decide +kernel
theorem d_L_law_144 : decode m_L_law.2.1 144 = .ok (.ireturn, 1) := by decide +kernel
theorem d_L_law_145 : decode m_L_law.2.1 145 = .ok (.goto 796, 3) := by decide +kernel
theorem d_L_law_148 : decode m_L_law.2.1 148 = .ok (.aload_n 1, 1) := by decide +kernel
theorem d_L_law_149 : decode m_L_law.2.1 149 = .ok (.aload_n 0, 1) := by decide +kernel
theorem d_L_law_150 : decode m_L_law.2.1 150 = .ok (.iload 4, 2) := by decide +kernel
theorem d_L_law_152 : decode m_L_law.2.1 152 = .ok (.iconst 1, 1) := by decide +kernel
theorem d_L_law_153 : decode m_L_law.2.1 153 = .ok (.iadd, 1) := by decide +kernel
theorem d_L_law_154 : decode m_L_law.2.1 154 = .ok (.iaload, 1) := by decide +kernel
theorem d_L_law_155 : decode m_L_law.2.1 155 = .ok (.aload_n 3, 1) := by decide +kernel
theorem d_L_law_156 : decode m_L_law.2.1 156 = .ok (.invokestatic 75, 3) := by decide +kernel
theorem d_L_law_159 : decode m_L_law.2.1 159 = .ok (.istore 5, 2) := by decide +kernel
theorem d_L_law_161 : decode m_L_law.2.1 161 = .ok (.aload_n 2, 1) := by decide +kernel
theorem d_L_law_162 : decode m_L_law.2.1 162 = .ok (.aload_n 0, 1) := by decide +kernel
theorem d_L_law_163 : decode m_L_law.2.1 163 = .ok (.iload 4, 2) := by decide +kernel
theorem d_L_law_165 : decode m_L_law.2.1 165 = .ok (.iconst 1, 1) := by decide +kernel
theorem d_L_law_166 : decode m_L_law.2.1 166 = .ok (.iadd, 1) := by decide +kernel
theorem d_L_law_167 : decode m_L_law.2.1 167 = .ok (.iaload, 1) := by decide +kernel
theorem d_L_law_168 : decode m_L_law.2.1 168 = .ok (.invokevirtual 78, 3) := by decide +kernel
theorem d_L_law_171 : decode m_L_law.2.1 171 = .ok (.istore 6, 2) := by decide +kernel
theorem d_L_law_173 : decode m_L_law.2.1 173 = .ok (.aload_n 2, 1) := by decide +kernel
theorem d_L_law_174 : decode m_L_law.2.1 174 = .ok (.invokevirtual 72, 3) := by decide +kernel
theorem d_L_law_177 : decode m_L_law.2.1 177 = .ok (.iload 5, 2) := by decide +kernel
theorem d_L_law_179 : decode m_L_law.2.1 179 = .ok (.if_icmp .eq 5, 3) := by decide +kernel
theorem d_L_law_182 : decode m_L_law.2.1 182 = .ok (.iconst 0, 1) := by decide +kernel
theorem d_L_law_183 : decode m_L_law.2.1 183 = .ok (.ireturn, 1) := by decide +kernel
theorem d_L_law_184 : decode m_L_law.2.1 184 = .ok (.iload 5, 2) := by decide +kernel
theorem d_L_law_186 : decode m_L_law.2.1 186 = .ok (.ifCond .ne 15, 3) := by decide +kernel
theorem d_L_law_189 : decode m_L_law.2.1 189 = .ok (.aload_n 3, 1) := by decide +kernel
theorem d_L_law_190 : decode m_L_law.2.1 190 = .ok (.iconst 0, 1) := by decide +kernel
theorem d_L_law_191 : decode m_L_law.2.1 191 = .ok (.laload, 1) := by decide +kernel
theorem d_L_law_192 : decode m_L_law.2.1 192 = .ok (.iload 6, 2) := by decide +kernel
theorem d_L_law_194 : decode m_L_law.2.1 194 = .ok (.i2l, 1) := by decide +kernel
theorem d_L_law_195 : decode m_L_law.2.1 195 = .ok (.lcmp, 1) := by decide +kernel
theorem d_L_law_196 : decode m_L_law.2.1 196 = .ok (.ifCond .eq 5, 3) := by decide +kernel
theorem d_L_law_199 : decode m_L_law.2.1 199 = .ok (.iconst 0, 1) := by decide +kernel
theorem d_L_law_200 : decode m_L_law.2.1 200 = .ok (.ireturn, 1) := by decide +kernel
theorem d_L_law_201 : decode m_L_law.2.1 201 = .ok (.goto 740, 3) := by decide +kernel
theorem d_L_law_204 : decode m_L_law.2.1 204 = .ok (.aload_n 1, 1) := by decide +kernel
theorem d_L_law_205 : decode m_L_law.2.1 205 = .ok (.aload_n 0, 1) := by decide +kernel
theorem d_L_law_206 : decode m_L_law.2.1 206 = .ok (.iload 4, 2) := by decide +kernel
theorem d_L_law_208 : decode m_L_law.2.1 208 = .ok (.iconst 1, 1) := by decide +kernel
theorem d_L_law_209 : decode m_L_law.2.1 209 = .ok (.iadd, 1) := by decide +kernel
theorem d_L_law_210 : decode m_L_law.2.1 210 = .ok (.iaload, 1) := by decide +kernel
theorem d_L_law_211 : decode m_L_law.2.1 211 = .ok (.aload_n 3, 1) := by decide +kernel
theorem d_L_law_212 : decode m_L_law.2.1 212 = .ok (.invokestatic 79, 3) := by decide +kernel
theorem d_L_law_215 : decode m_L_law.2.1 215 = .ok (.istore 5, 2) := by decide +kernel
theorem d_L_law_217 : decode m_L_law.2.1 217 = .ok (.aload_n 2, 1) := by decide +kernel
theorem d_L_law_218 : decode m_L_law.2.1 218 = .ok (.aload_n 0, 1) := by decide +kernel
theorem d_L_law_219 : decode m_L_law.2.1 219 = .ok (.iload 4, 2) := by decide +kernel
theorem d_L_law_221 : decode m_L_law.2.1 221 = .ok (.iconst 1, 1) := by decide +kernel
theorem d_L_law_222 : decode m_L_law.2.1 222 = .ok (.iadd, 1) := by decide +kernel
theorem d_L_law_223 : decode m_L_law.2.1 223 = .ok (.iaload, 1) := by decide +kernel
theorem d_L_law_224 : decode m_L_law.2.1 224 = .ok (.invokevirtual 81, 3) := by decide +kernel
theorem d_L_law_227 : decode m_L_law.2.1 227 = .ok (.istore 6, 2) := by decide +kernel
theorem d_L_law_229 : decode m_L_law.2.1 229 = .ok (.aload_n 2, 1) := by decide +kernel
theorem d_L_law_230 : decode m_L_law.2.1 230 = .ok (.invokevirtual 72, 3) := by decide +kernel
theorem d_L_law_233 : decode m_L_law.2.1 233 = .ok (.iload 5, 2) := by decide +kernel
theorem d_L_law_235 : decode m_L_law.2.1 235 = .ok (.if_icmp .eq 5, 3) := by decide +kernel
theorem d_L_law_238 : decode m_L_law.2.1 238 = .ok (.iconst 0, 1) := by decide +kernel
theorem d_L_law_239 : decode m_L_law.2.1 239 = .ok (.ireturn, 1) := by decide +kernel
theorem d_L_law_240 : decode m_L_law.2.1 240 = .ok (.iload 5, 2) := by decide +kernel
theorem d_L_law_242 : decode m_L_law.2.1 242 = .ok (.ifCond .ne 15, 3) := by decide +kernel
theorem d_L_law_245 : decode m_L_law.2.1 245 = .ok (.aload_n 3, 1) := by decide +kernel
theorem d_L_law_246 : decode m_L_law.2.1 246 = .ok (.iconst 0, 1) := by decide +kernel
theorem d_L_law_247 : decode m_L_law.2.1 247 = .ok (.laload, 1) := by decide +kernel
theorem d_L_law_248 : decode m_L_law.2.1 248 = .ok (.iload 6, 2) := by decide +kernel
theorem d_L_law_250 : decode m_L_law.2.1 250 = .ok (.i2l, 1) := by decide +kernel
theorem d_L_law_251 : decode m_L_law.2.1 251 = .ok (.lcmp, 1) := by decide +kernel
theorem d_L_law_252 : decode m_L_law.2.1 252 = .ok (.ifCond .eq 5, 3) := by decide +kernel
theorem d_L_law_255 : decode m_L_law.2.1 255 = .ok (.iconst 0, 1) := by decide +kernel
theorem d_L_law_256 : decode m_L_law.2.1 256 = .ok (.ireturn, 1) := by decide +kernel
theorem d_L_law_257 : decode m_L_law.2.1 257 = .ok (.goto 684, 3) := by decide +kernel
theorem d_L_law_260 : decode m_L_law.2.1 260 = .ok (.aload_n 1, 1) := by decide +kernel
theorem d_L_law_261 : decode m_L_law.2.1 261 = .ok (.aload_n 0, 1) := by decide +kernel
theorem d_L_law_262 : decode m_L_law.2.1 262 = .ok (.iload 4, 2) := by decide +kernel
theorem d_L_law_264 : decode m_L_law.2.1 264 = .ok (.iconst 1, 1) := by decide +kernel
theorem d_L_law_265 : decode m_L_law.2.1 265 = .ok (.iadd, 1) := by decide +kernel
theorem d_L_law_266 : decode m_L_law.2.1 266 = .ok (.iaload, 1) := by decide +kernel
theorem d_L_law_267 : decode m_L_law.2.1 267 = .ok (.aload_n 0, 1) := by decide +kernel
theorem d_L_law_268 : decode m_L_law.2.1 268 = .ok (.iload 4, 2) := by decide +kernel
theorem d_L_law_270 : decode m_L_law.2.1 270 = .ok (.iconst 2, 1) := by decide +kernel
theorem d_L_law_271 : decode m_L_law.2.1 271 = .ok (.iadd, 1) := by decide +kernel
theorem d_L_law_272 : decode m_L_law.2.1 272 = .ok (.iaload, 1) := by decide +kernel
theorem d_L_law_273 : decode m_L_law.2.1 273 = .ok (.aload_n 0, 1) := by decide +kernel
theorem d_L_law_274 : decode m_L_law.2.1 274 = .ok (.iload 4, 2) := by decide +kernel
theorem d_L_law_276 : decode m_L_law.2.1 276 = .ok (.iconst 3, 1) := by decide +kernel
theorem d_L_law_277 : decode m_L_law.2.1 277 = .ok (.iadd, 1) := by decide +kernel
theorem d_L_law_278 : decode m_L_law.2.1 278 = .ok (.iaload, 1) := by decide +kernel
theorem d_L_law_279 : decode m_L_law.2.1 279 = .ok (.aload_n 0, 1) := by decide +kernel
theorem d_L_law_280 : decode m_L_law.2.1 280 = .ok (.iload 4, 2) := by decide +kernel
theorem d_L_law_282 : decode m_L_law.2.1 282 = .ok (.iconst 4, 1) := by decide +kernel
theorem d_L_law_283 : decode m_L_law.2.1 283 = .ok (.iadd, 1) := by decide +kernel
theorem d_L_law_284 : decode m_L_law.2.1 284 = .ok (.iaload, 1) := by decide +kernel
theorem d_L_law_285 : decode m_L_law.2.1 285 = .ok (.aload_n 3, 1) := by decide +kernel
theorem d_L_law_286 : decode m_L_law.2.1 286 = .ok (.invokestatic 82, 3) := by decide +kernel
theorem d_L_law_289 : decode m_L_law.2.1 289 = .ok (.istore 5, 2) := by decide +kernel
theorem d_L_law_291 : decode m_L_law.2.1 291 = .ok (.aload_n 2, 1) := by decide +kernel
theorem d_L_law_292 : decode m_L_law.2.1 292 = .ok (.aload_n 0, 1) := by decide +kernel
theorem d_L_law_293 : decode m_L_law.2.1 293 = .ok (.iload 4, 2) := by decide +kernel
theorem d_L_law_295 : decode m_L_law.2.1 295 = .ok (.iconst 1, 1) := by decide +kernel
theorem d_L_law_296 : decode m_L_law.2.1 296 = .ok (.iadd, 1) := by decide +kernel
theorem d_L_law_297 : decode m_L_law.2.1 297 = .ok (.iaload, 1) := by decide +kernel
theorem d_L_law_298 : decode m_L_law.2.1 298 = .ok (.aload_n 0, 1) := by decide +kernel
theorem d_L_law_299 : decode m_L_law.2.1 299 = .ok (.iload 4, 2) := by decide +kernel
theorem d_L_law_301 : decode m_L_law.2.1 301 = .ok (.iconst 2, 1) := by decide +kernel
theorem d_L_law_302 : decode m_L_law.2.1 302 = .ok (.iadd, 1) := by decide +kernel
theorem d_L_law_303 : decode m_L_law.2.1 303 = .ok (.iaload, 1) := by decide +kernel
theorem d_L_law_304 : decode m_L_law.2.1 304 = .ok (.aload_n 0, 1) := by decide +kernel
theorem d_L_law_305 : decode m_L_law.2.1 305 = .ok (.iload 4, 2) := by decide +kernel
theorem d_L_law_307 : decode m_L_law.2.1 307 = .ok (.iconst 3, 1) := by decide +kernel
theorem d_L_law_308 : decode m_L_law.2.1 308 = .ok (.iadd, 1) := by decide +kernel
theorem d_L_law_309 : decode m_L_law.2.1 309 = .ok (.iaload, 1) := by decide +kernel
theorem d_L_law_310 : decode m_L_law.2.1 310 = .ok (.aload_n 0, 1) := by decide +kernel
theorem d_L_law_311 : decode m_L_law.2.1 311 = .ok (.iload 4, 2) := by decide +kernel
theorem d_L_law_313 : decode m_L_law.2.1 313 = .ok (.iconst 4, 1) := by decide +kernel
theorem d_L_law_314 : decode m_L_law.2.1 314 = .ok (.iadd, 1) := by decide +kernel
theorem d_L_law_315 : decode m_L_law.2.1 315 = .ok (.iaload, 1) := by decide +kernel
theorem d_L_law_316 : decode m_L_law.2.1 316 = .ok (.invokevirtual 85, 3) := by decide +kernel
theorem d_L_law_319 : decode m_L_law.2.1 319 = .ok (.istore 6, 2) := by decide +kernel
theorem d_L_law_321 : decode m_L_law.2.1 321 = .ok (.aload_n 2, 1) := by decide +kernel
theorem d_L_law_322 : decode m_L_law.2.1 322 = .ok (.invokevirtual 72, 3) := by decide +kernel
theorem d_L_law_325 : decode m_L_law.2.1 325 = .ok (.iload 5, 2) := by decide +kernel
theorem d_L_law_327 : decode m_L_law.2.1 327 = .ok (.if_icmp .eq 5, 3) := by decide +kernel
theorem d_L_law_330 : decode m_L_law.2.1 330 = .ok (.iconst 0, 1) := by decide +kernel
theorem d_L_law_331 : decode m_L_law.2.1 331 = .ok (.ireturn, 1) := by decide +kernel
theorem d_L_law_332 : decode m_L_law.2.1 332 = .ok (.iload 5, 2) := by decide +kernel
theorem d_L_law_334 : decode m_L_law.2.1 334 = .ok (.ifCond .ne 15, 3) := by decide +kernel
theorem d_L_law_337 : decode m_L_law.2.1 337 = .ok (.aload_n 3, 1) := by decide +kernel
theorem d_L_law_338 : decode m_L_law.2.1 338 = .ok (.iconst 0, 1) := by decide +kernel
theorem d_L_law_339 : decode m_L_law.2.1 339 = .ok (.laload, 1) := by decide +kernel
theorem d_L_law_340 : decode m_L_law.2.1 340 = .ok (.iload 6, 2) := by decide +kernel
theorem d_L_law_342 : decode m_L_law.2.1 342 = .ok (.i2l, 1) := by decide +kernel
theorem d_L_law_343 : decode m_L_law.2.1 343 = .ok (.lcmp, 1) := by decide +kernel
theorem d_L_law_344 : decode m_L_law.2.1 344 = .ok (.ifCond .eq 5, 3) := by decide +kernel
theorem d_L_law_347 : decode m_L_law.2.1 347 = .ok (.iconst 0, 1) := by decide +kernel
theorem d_L_law_348 : decode m_L_law.2.1 348 = .ok (.ireturn, 1) := by decide +kernel
theorem d_L_law_349 : decode m_L_law.2.1 349 = .ok (.goto 592, 3) := by decide +kernel
theorem d_L_law_352 : decode m_L_law.2.1 352 = .ok (.aload_n 1, 1) := by decide +kernel
theorem d_L_law_353 : decode m_L_law.2.1 353 = .ok (.aload_n 0, 1) := by decide +kernel
theorem d_L_law_354 : decode m_L_law.2.1 354 = .ok (.iload 4, 2) := by decide +kernel
theorem d_L_law_356 : decode m_L_law.2.1 356 = .ok (.iconst 1, 1) := by decide +kernel
theorem d_L_law_357 : decode m_L_law.2.1 357 = .ok (.iadd, 1) := by decide +kernel
theorem d_L_law_358 : decode m_L_law.2.1 358 = .ok (.iaload, 1) := by decide +kernel
theorem d_L_law_359 : decode m_L_law.2.1 359 = .ok (.invokevirtual 86, 3) := by decide +kernel
theorem d_L_law_362 : decode m_L_law.2.1 362 = .ok (.aload_n 2, 1) := by decide +kernel
theorem d_L_law_363 : decode m_L_law.2.1 363 = .ok (.aload_n 0, 1) := by decide +kernel
theorem d_L_law_364 : decode m_L_law.2.1 364 = .ok (.iload 4, 2) := by decide +kernel
theorem d_L_law_366 : decode m_L_law.2.1 366 = .ok (.iconst 1, 1) := by decide +kernel
theorem d_L_law_367 : decode m_L_law.2.1 367 = .ok (.iadd, 1) := by decide +kernel
theorem d_L_law_368 : decode m_L_law.2.1 368 = .ok (.iaload, 1) := by decide +kernel
theorem d_L_law_369 : decode m_L_law.2.1 369 = .ok (.invokevirtual 89, 3) := by decide +kernel
theorem d_L_law_372 : decode m_L_law.2.1 372 = .ok (.if_icmp .eq 569, 3) := by decide +kernel
theorem d_L_law_375 : decode m_L_law.2.1 375 = .ok (.iconst 0, 1) := by decide +kernel
theorem d_L_law_376 : decode m_L_law.2.1 376 = .ok (.ireturn, 1) := by decide +kernel
theorem d_L_law_377 : decode m_L_law.2.1 377 = .ok (.aload_n 1, 1) := by decide +kernel
theorem d_L_law_378 : decode m_L_law.2.1 378 = .ok (.aload_n 0, 1) := by decide +kernel
theorem d_L_law_379 : decode m_L_law.2.1 379 = .ok (.iload 4, 2) := by decide +kernel
theorem d_L_law_381 : decode m_L_law.2.1 381 = .ok (.iconst 1, 1) := by decide +kernel
theorem d_L_law_382 : decode m_L_law.2.1 382 = .ok (.iadd, 1) := by decide +kernel
theorem d_L_law_383 : decode m_L_law.2.1 383 = .ok (.iaload, 1) := by decide +kernel
theorem d_L_law_384 : decode m_L_law.2.1 384 = .ok (.aload_n 0, 1) := by decide +kernel
theorem d_L_law_385 : decode m_L_law.2.1 385 = .ok (.iload 4, 2) := by decide +kernel
theorem d_L_law_387 : decode m_L_law.2.1 387 = .ok (.iconst 2, 1) := by decide +kernel
theorem d_L_law_388 : decode m_L_law.2.1 388 = .ok (.iadd, 1) := by decide +kernel
theorem d_L_law_389 : decode m_L_law.2.1 389 = .ok (.iaload, 1) := by decide +kernel
theorem d_L_law_390 : decode m_L_law.2.1 390 = .ok (.aload_n 3, 1) := by decide +kernel
theorem d_L_law_391 : decode m_L_law.2.1 391 = .ok (.invokestatic 90, 3) := by decide +kernel
theorem d_L_law_394 : decode m_L_law.2.1 394 = .ok (.istore 5, 2) := by decide +kernel
theorem d_L_law_396 : decode m_L_law.2.1 396 = .ok (.aload_n 2, 1) := by decide +kernel
theorem d_L_law_397 : decode m_L_law.2.1 397 = .ok (.aload_n 0, 1) := by decide +kernel
theorem d_L_law_398 : decode m_L_law.2.1 398 = .ok (.iload 4, 2) := by decide +kernel
theorem d_L_law_400 : decode m_L_law.2.1 400 = .ok (.iconst 1, 1) := by decide +kernel
theorem d_L_law_401 : decode m_L_law.2.1 401 = .ok (.iadd, 1) := by decide +kernel
theorem d_L_law_402 : decode m_L_law.2.1 402 = .ok (.iaload, 1) := by decide +kernel
theorem d_L_law_403 : decode m_L_law.2.1 403 = .ok (.aload_n 0, 1) := by decide +kernel
theorem d_L_law_404 : decode m_L_law.2.1 404 = .ok (.iload 4, 2) := by decide +kernel
theorem d_L_law_406 : decode m_L_law.2.1 406 = .ok (.iconst 2, 1) := by decide +kernel
theorem d_L_law_407 : decode m_L_law.2.1 407 = .ok (.iadd, 1) := by decide +kernel
theorem d_L_law_408 : decode m_L_law.2.1 408 = .ok (.iaload, 1) := by decide +kernel
theorem d_L_law_409 : decode m_L_law.2.1 409 = .ok (.invokevirtual 93, 3) := by decide +kernel
theorem d_L_law_412 : decode m_L_law.2.1 412 = .ok (.istore 6, 2) := by decide +kernel
theorem d_L_law_414 : decode m_L_law.2.1 414 = .ok (.aload_n 2, 1) := by decide +kernel
theorem d_L_law_415 : decode m_L_law.2.1 415 = .ok (.invokevirtual 72, 3) := by decide +kernel
theorem d_L_law_418 : decode m_L_law.2.1 418 = .ok (.iload 5, 2) := by decide +kernel
theorem d_L_law_420 : decode m_L_law.2.1 420 = .ok (.if_icmp .eq 5, 3) := by decide +kernel
theorem d_L_law_423 : decode m_L_law.2.1 423 = .ok (.iconst 0, 1) := by decide +kernel
theorem d_L_law_424 : decode m_L_law.2.1 424 = .ok (.ireturn, 1) := by decide +kernel
theorem d_L_law_425 : decode m_L_law.2.1 425 = .ok (.iload 5, 2) := by decide +kernel
theorem d_L_law_427 : decode m_L_law.2.1 427 = .ok (.ifCond .ne 15, 3) := by decide +kernel
theorem d_L_law_430 : decode m_L_law.2.1 430 = .ok (.aload_n 3, 1) := by decide +kernel
theorem d_L_law_431 : decode m_L_law.2.1 431 = .ok (.iconst 0, 1) := by decide +kernel
theorem d_L_law_432 : decode m_L_law.2.1 432 = .ok (.laload, 1) := by decide +kernel
theorem d_L_law_433 : decode m_L_law.2.1 433 = .ok (.iload 6, 2) := by decide +kernel
theorem d_L_law_435 : decode m_L_law.2.1 435 = .ok (.i2l, 1) := by decide +kernel
theorem d_L_law_436 : decode m_L_law.2.1 436 = .ok (.lcmp, 1) := by decide +kernel
theorem d_L_law_437 : decode m_L_law.2.1 437 = .ok (.ifCond .eq 5, 3) := by decide +kernel
theorem d_L_law_440 : decode m_L_law.2.1 440 = .ok (.iconst 0, 1) := by decide +kernel
theorem d_L_law_441 : decode m_L_law.2.1 441 = .ok (.ireturn, 1) := by decide +kernel
theorem d_L_law_442 : decode m_L_law.2.1 442 = .ok (.goto 499, 3) := by decide +kernel
theorem d_L_law_445 : decode m_L_law.2.1 445 = .ok (.aload_n 1, 1) := by decide +kernel
theorem d_L_law_446 : decode m_L_law.2.1 446 = .ok (.aload_n 0, 1) := by decide +kernel
theorem d_L_law_447 : decode m_L_law.2.1 447 = .ok (.iload 4, 2) := by decide +kernel
theorem d_L_law_449 : decode m_L_law.2.1 449 = .ok (.iconst 1, 1) := by decide +kernel
theorem d_L_law_450 : decode m_L_law.2.1 450 = .ok (.iadd, 1) := by decide +kernel
theorem d_L_law_451 : decode m_L_law.2.1 451 = .ok (.iaload, 1) := by decide +kernel
theorem d_L_law_452 : decode m_L_law.2.1 452 = .ok (.aload_n 3, 1) := by decide +kernel
theorem d_L_law_453 : decode m_L_law.2.1 453 = .ok (.invokestatic 94, 3) := by decide +kernel
theorem d_L_law_456 : decode m_L_law.2.1 456 = .ok (.istore 5, 2) := by decide +kernel
theorem d_L_law_458 : decode m_L_law.2.1 458 = .ok (.aload_n 2, 1) := by decide +kernel
theorem d_L_law_459 : decode m_L_law.2.1 459 = .ok (.aload_n 0, 1) := by decide +kernel
theorem d_L_law_460 : decode m_L_law.2.1 460 = .ok (.iload 4, 2) := by decide +kernel
theorem d_L_law_462 : decode m_L_law.2.1 462 = .ok (.iconst 1, 1) := by decide +kernel
theorem d_L_law_463 : decode m_L_law.2.1 463 = .ok (.iadd, 1) := by decide +kernel
theorem d_L_law_464 : decode m_L_law.2.1 464 = .ok (.iaload, 1) := by decide +kernel
theorem d_L_law_465 : decode m_L_law.2.1 465 = .ok (.invokevirtual 96, 3) := by decide +kernel
theorem d_L_law_468 : decode m_L_law.2.1 468 = .ok (.istore 6, 2) := by decide +kernel
theorem d_L_law_470 : decode m_L_law.2.1 470 = .ok (.aload_n 2, 1) := by decide +kernel
theorem d_L_law_471 : decode m_L_law.2.1 471 = .ok (.invokevirtual 72, 3) := by decide +kernel
theorem d_L_law_474 : decode m_L_law.2.1 474 = .ok (.iload 5, 2) := by decide +kernel
theorem d_L_law_476 : decode m_L_law.2.1 476 = .ok (.if_icmp .eq 5, 3) := by decide +kernel
theorem d_L_law_479 : decode m_L_law.2.1 479 = .ok (.iconst 0, 1) := by decide +kernel
theorem d_L_law_480 : decode m_L_law.2.1 480 = .ok (.ireturn, 1) := by decide +kernel
theorem d_L_law_481 : decode m_L_law.2.1 481 = .ok (.iload 5, 2) := by decide +kernel
theorem d_L_law_483 : decode m_L_law.2.1 483 = .ok (.ifCond .ne 15, 3) := by decide +kernel
theorem d_L_law_486 : decode m_L_law.2.1 486 = .ok (.aload_n 3, 1) := by decide +kernel
theorem d_L_law_487 : decode m_L_law.2.1 487 = .ok (.iconst 0, 1) := by decide +kernel
theorem d_L_law_488 : decode m_L_law.2.1 488 = .ok (.laload, 1) := by decide +kernel
theorem d_L_law_489 : decode m_L_law.2.1 489 = .ok (.iload 6, 2) := by decide +kernel
theorem d_L_law_491 : decode m_L_law.2.1 491 = .ok (.i2l, 1) := by decide +kernel
theorem d_L_law_492 : decode m_L_law.2.1 492 = .ok (.lcmp, 1) := by decide +kernel
theorem d_L_law_493 : decode m_L_law.2.1 493 = .ok (.ifCond .eq 5, 3) := by decide +kernel
theorem d_L_law_496 : decode m_L_law.2.1 496 = .ok (.iconst 0, 1) := by decide +kernel
theorem d_L_law_497 : decode m_L_law.2.1 497 = .ok (.ireturn, 1) := by decide +kernel
theorem d_L_law_498 : decode m_L_law.2.1 498 = .ok (.goto 443, 3) := by decide +kernel
theorem d_L_law_501 : decode m_L_law.2.1 501 = .ok (.aload_n 1, 1) := by decide +kernel
theorem d_L_law_502 : decode m_L_law.2.1 502 = .ok (.aload_n 0, 1) := by decide +kernel
theorem d_L_law_503 : decode m_L_law.2.1 503 = .ok (.iload 4, 2) := by decide +kernel
theorem d_L_law_505 : decode m_L_law.2.1 505 = .ok (.iconst 1, 1) := by decide +kernel
theorem d_L_law_506 : decode m_L_law.2.1 506 = .ok (.iadd, 1) := by decide +kernel
theorem d_L_law_507 : decode m_L_law.2.1 507 = .ok (.iaload, 1) := by decide +kernel
theorem d_L_law_508 : decode m_L_law.2.1 508 = .ok (.aload_n 0, 1) := by decide +kernel
theorem d_L_law_509 : decode m_L_law.2.1 509 = .ok (.iload 4, 2) := by decide +kernel
theorem d_L_law_511 : decode m_L_law.2.1 511 = .ok (.iconst 2, 1) := by decide +kernel
theorem d_L_law_512 : decode m_L_law.2.1 512 = .ok (.iadd, 1) := by decide +kernel
theorem d_L_law_513 : decode m_L_law.2.1 513 = .ok (.iaload, 1) := by decide +kernel
theorem d_L_law_514 : decode m_L_law.2.1 514 = .ok (.aload_n 3, 1) := by decide +kernel
theorem d_L_law_515 : decode m_L_law.2.1 515 = .ok (.invokestatic 97, 3) := by decide +kernel
theorem d_L_law_518 : decode m_L_law.2.1 518 = .ok (.istore 5, 2) := by decide +kernel
theorem d_L_law_520 : decode m_L_law.2.1 520 = .ok (.aload_n 2, 1) := by decide +kernel
theorem d_L_law_521 : decode m_L_law.2.1 521 = .ok (.aload_n 0, 1) := by decide +kernel
theorem d_L_law_522 : decode m_L_law.2.1 522 = .ok (.iload 4, 2) := by decide +kernel
theorem d_L_law_524 : decode m_L_law.2.1 524 = .ok (.iconst 1, 1) := by decide +kernel
theorem d_L_law_525 : decode m_L_law.2.1 525 = .ok (.iadd, 1) := by decide +kernel
theorem d_L_law_526 : decode m_L_law.2.1 526 = .ok (.iaload, 1) := by decide +kernel
theorem d_L_law_527 : decode m_L_law.2.1 527 = .ok (.aload_n 0, 1) := by decide +kernel
theorem d_L_law_528 : decode m_L_law.2.1 528 = .ok (.iload 4, 2) := by decide +kernel
theorem d_L_law_530 : decode m_L_law.2.1 530 = .ok (.iconst 2, 1) := by decide +kernel
theorem d_L_law_531 : decode m_L_law.2.1 531 = .ok (.iadd, 1) := by decide +kernel
theorem d_L_law_532 : decode m_L_law.2.1 532 = .ok (.iaload, 1) := by decide +kernel
theorem d_L_law_533 : decode m_L_law.2.1 533 = .ok (.invokevirtual 99, 3) := by decide +kernel
theorem d_L_law_536 : decode m_L_law.2.1 536 = .ok (.istore 6, 2) := by decide +kernel
theorem d_L_law_538 : decode m_L_law.2.1 538 = .ok (.aload_n 2, 1) := by decide +kernel
theorem d_L_law_539 : decode m_L_law.2.1 539 = .ok (.invokevirtual 72, 3) := by decide +kernel
theorem d_L_law_542 : decode m_L_law.2.1 542 = .ok (.iload 5, 2) := by decide +kernel
theorem d_L_law_544 : decode m_L_law.2.1 544 = .ok (.if_icmp .eq 5, 3) := by decide +kernel
theorem d_L_law_547 : decode m_L_law.2.1 547 = .ok (.iconst 0, 1) := by decide +kernel
theorem d_L_law_548 : decode m_L_law.2.1 548 = .ok (.ireturn, 1) := by decide +kernel
theorem d_L_law_549 : decode m_L_law.2.1 549 = .ok (.iload 5, 2) := by decide +kernel
theorem d_L_law_551 : decode m_L_law.2.1 551 = .ok (.ifCond .ne 22, 3) := by decide +kernel
theorem d_L_law_554 : decode m_L_law.2.1 554 = .ok (.aload_n 3, 1) := by decide +kernel
theorem d_L_law_555 : decode m_L_law.2.1 555 = .ok (.iconst 0, 1) := by decide +kernel
theorem d_L_law_556 : decode m_L_law.2.1 556 = .ok (.laload, 1) := by decide +kernel
theorem d_L_law_557 : decode m_L_law.2.1 557 = .ok (.iload 6, 2) := by decide +kernel
theorem d_L_law_559 : decode m_L_law.2.1 559 = .ok (.ifCond .eq 7, 3) := by decide +kernel
theorem d_L_law_562 : decode m_L_law.2.1 562 = .ok (.lconst 1, 1) := by decide +kernel
theorem d_L_law_563 : decode m_L_law.2.1 563 = .ok (.goto 4, 3) := by decide +kernel
theorem d_L_law_566 : decode m_L_law.2.1 566 = .ok (.lconst 0, 1) := by decide +kernel
theorem d_L_law_567 : decode m_L_law.2.1 567 = .ok (.lcmp, 1) := by decide +kernel
theorem d_L_law_568 : decode m_L_law.2.1 568 = .ok (.ifCond .eq 5, 3) := by decide +kernel
theorem d_L_law_571 : decode m_L_law.2.1 571 = .ok (.iconst 0, 1) := by decide +kernel
theorem d_L_law_572 : decode m_L_law.2.1 572 = .ok (.ireturn, 1) := by decide +kernel
theorem d_L_law_573 : decode m_L_law.2.1 573 = .ok (.goto 368, 3) := by decide +kernel
theorem d_L_law_576 : decode m_L_law.2.1 576 = .ok (.aload_n 1, 1) := by decide +kernel
theorem d_L_law_577 : decode m_L_law.2.1 577 = .ok (.aload_n 0, 1) := by decide +kernel
theorem d_L_law_578 : decode m_L_law.2.1 578 = .ok (.iload 4, 2) := by decide +kernel
theorem d_L_law_580 : decode m_L_law.2.1 580 = .ok (.iconst 1, 1) := by decide +kernel
theorem d_L_law_581 : decode m_L_law.2.1 581 = .ok (.iadd, 1) := by decide +kernel
theorem d_L_law_582 : decode m_L_law.2.1 582 = .ok (.iaload, 1) := by decide +kernel
theorem d_L_law_583 : decode m_L_law.2.1 583 = .ok (.aload_n 0, 1) := by decide +kernel
theorem d_L_law_584 : decode m_L_law.2.1 584 = .ok (.iload 4, 2) := by decide +kernel
theorem d_L_law_586 : decode m_L_law.2.1 586 = .ok (.iconst 2, 1) := by decide +kernel
theorem d_L_law_587 : decode m_L_law.2.1 587 = .ok (.iadd, 1) := by decide +kernel
theorem d_L_law_588 : decode m_L_law.2.1 588 = .ok (.iaload, 1) := by decide +kernel
theorem d_L_law_589 : decode m_L_law.2.1 589 = .ok (.aload_n 3, 1) := by decide +kernel
theorem d_L_law_590 : decode m_L_law.2.1 590 = .ok (.invokestatic 100, 3) := by decide +kernel
theorem d_L_law_593 : decode m_L_law.2.1 593 = .ok (.istore 5, 2) := by decide +kernel
theorem d_L_law_595 : decode m_L_law.2.1 595 = .ok (.aload_n 2, 1) := by decide +kernel
theorem d_L_law_596 : decode m_L_law.2.1 596 = .ok (.aload_n 0, 1) := by decide +kernel
theorem d_L_law_597 : decode m_L_law.2.1 597 = .ok (.iload 4, 2) := by decide +kernel
theorem d_L_law_599 : decode m_L_law.2.1 599 = .ok (.iconst 1, 1) := by decide +kernel
theorem d_L_law_600 : decode m_L_law.2.1 600 = .ok (.iadd, 1) := by decide +kernel
theorem d_L_law_601 : decode m_L_law.2.1 601 = .ok (.iaload, 1) := by decide +kernel
theorem d_L_law_602 : decode m_L_law.2.1 602 = .ok (.aload_n 0, 1) := by decide +kernel
theorem d_L_law_603 : decode m_L_law.2.1 603 = .ok (.iload 4, 2) := by decide +kernel
theorem d_L_law_605 : decode m_L_law.2.1 605 = .ok (.iconst 2, 1) := by decide +kernel
theorem d_L_law_606 : decode m_L_law.2.1 606 = .ok (.iadd, 1) := by decide +kernel
theorem d_L_law_607 : decode m_L_law.2.1 607 = .ok (.iaload, 1) := by decide +kernel
theorem d_L_law_608 : decode m_L_law.2.1 608 = .ok (.invokevirtual 102, 3) := by decide +kernel
theorem d_L_law_611 : decode m_L_law.2.1 611 = .ok (.istore 6, 2) := by decide +kernel
theorem d_L_law_613 : decode m_L_law.2.1 613 = .ok (.aload_n 2, 1) := by decide +kernel
theorem d_L_law_614 : decode m_L_law.2.1 614 = .ok (.invokevirtual 72, 3) := by decide +kernel
theorem d_L_law_617 : decode m_L_law.2.1 617 = .ok (.iload 5, 2) := by decide +kernel
theorem d_L_law_619 : decode m_L_law.2.1 619 = .ok (.if_icmp .eq 5, 3) := by decide +kernel
theorem d_L_law_622 : decode m_L_law.2.1 622 = .ok (.iconst 0, 1) := by decide +kernel
theorem d_L_law_623 : decode m_L_law.2.1 623 = .ok (.ireturn, 1) := by decide +kernel
theorem d_L_law_624 : decode m_L_law.2.1 624 = .ok (.iload 5, 2) := by decide +kernel
theorem d_L_law_626 : decode m_L_law.2.1 626 = .ok (.ifCond .ne 15, 3) := by decide +kernel
theorem d_L_law_629 : decode m_L_law.2.1 629 = .ok (.aload_n 3, 1) := by decide +kernel
theorem d_L_law_630 : decode m_L_law.2.1 630 = .ok (.iconst 0, 1) := by decide +kernel
theorem d_L_law_631 : decode m_L_law.2.1 631 = .ok (.laload, 1) := by decide +kernel
theorem d_L_law_632 : decode m_L_law.2.1 632 = .ok (.iload 6, 2) := by decide +kernel
theorem d_L_law_634 : decode m_L_law.2.1 634 = .ok (.i2l, 1) := by decide +kernel
theorem d_L_law_635 : decode m_L_law.2.1 635 = .ok (.lcmp, 1) := by decide +kernel
theorem d_L_law_636 : decode m_L_law.2.1 636 = .ok (.ifCond .eq 5, 3) := by decide +kernel
theorem d_L_law_639 : decode m_L_law.2.1 639 = .ok (.iconst 0, 1) := by decide +kernel
theorem d_L_law_640 : decode m_L_law.2.1 640 = .ok (.ireturn, 1) := by decide +kernel
theorem d_L_law_641 : decode m_L_law.2.1 641 = .ok (.goto 300, 3) := by decide +kernel
theorem d_L_law_644 : decode m_L_law.2.1 644 = .ok (.aload_n 1, 1) := by decide +kernel
theorem d_L_law_645 : decode m_L_law.2.1 645 = .ok (.aload_n 0, 1) := by decide +kernel
theorem d_L_law_646 : decode m_L_law.2.1 646 = .ok (.iload 4, 2) := by decide +kernel
theorem d_L_law_648 : decode m_L_law.2.1 648 = .ok (.iconst 1, 1) := by decide +kernel
theorem d_L_law_649 : decode m_L_law.2.1 649 = .ok (.iadd, 1) := by decide +kernel
theorem d_L_law_650 : decode m_L_law.2.1 650 = .ok (.iaload, 1) := by decide +kernel
theorem d_L_law_651 : decode m_L_law.2.1 651 = .ok (.aload_n 0, 1) := by decide +kernel
theorem d_L_law_652 : decode m_L_law.2.1 652 = .ok (.iload 4, 2) := by decide +kernel
theorem d_L_law_654 : decode m_L_law.2.1 654 = .ok (.iconst 2, 1) := by decide +kernel
theorem d_L_law_655 : decode m_L_law.2.1 655 = .ok (.iadd, 1) := by decide +kernel
theorem d_L_law_656 : decode m_L_law.2.1 656 = .ok (.iaload, 1) := by decide +kernel
theorem d_L_law_657 : decode m_L_law.2.1 657 = .ok (.aload_n 3, 1) := by decide +kernel
theorem d_L_law_658 : decode m_L_law.2.1 658 = .ok (.invokestatic 103, 3) := by decide +kernel
theorem d_L_law_661 : decode m_L_law.2.1 661 = .ok (.istore 5, 2) := by decide +kernel
theorem d_L_law_663 : decode m_L_law.2.1 663 = .ok (.aload_n 2, 1) := by decide +kernel
theorem d_L_law_664 : decode m_L_law.2.1 664 = .ok (.aload_n 0, 1) := by decide +kernel
theorem d_L_law_665 : decode m_L_law.2.1 665 = .ok (.iload 4, 2) := by decide +kernel
theorem d_L_law_667 : decode m_L_law.2.1 667 = .ok (.iconst 1, 1) := by decide +kernel
theorem d_L_law_668 : decode m_L_law.2.1 668 = .ok (.iadd, 1) := by decide +kernel
theorem d_L_law_669 : decode m_L_law.2.1 669 = .ok (.iaload, 1) := by decide +kernel
theorem d_L_law_670 : decode m_L_law.2.1 670 = .ok (.aload_n 0, 1) := by decide +kernel
theorem d_L_law_671 : decode m_L_law.2.1 671 = .ok (.iload 4, 2) := by decide +kernel
theorem d_L_law_673 : decode m_L_law.2.1 673 = .ok (.iconst 2, 1) := by decide +kernel
theorem d_L_law_674 : decode m_L_law.2.1 674 = .ok (.iadd, 1) := by decide +kernel
theorem d_L_law_675 : decode m_L_law.2.1 675 = .ok (.iaload, 1) := by decide +kernel
theorem d_L_law_676 : decode m_L_law.2.1 676 = .ok (.invokevirtual 105, 3) := by decide +kernel
theorem d_L_law_679 : decode m_L_law.2.1 679 = .ok (.istore 6, 2) := by decide +kernel
theorem d_L_law_681 : decode m_L_law.2.1 681 = .ok (.aload_n 2, 1) := by decide +kernel
theorem d_L_law_682 : decode m_L_law.2.1 682 = .ok (.invokevirtual 72, 3) := by decide +kernel
theorem d_L_law_685 : decode m_L_law.2.1 685 = .ok (.iload 5, 2) := by decide +kernel
theorem d_L_law_687 : decode m_L_law.2.1 687 = .ok (.if_icmp .eq 5, 3) := by decide +kernel
theorem d_L_law_690 : decode m_L_law.2.1 690 = .ok (.iconst 0, 1) := by decide +kernel
theorem d_L_law_691 : decode m_L_law.2.1 691 = .ok (.ireturn, 1) := by decide +kernel
theorem d_L_law_692 : decode m_L_law.2.1 692 = .ok (.iload 5, 2) := by decide +kernel
theorem d_L_law_694 : decode m_L_law.2.1 694 = .ok (.ifCond .ne 15, 3) := by decide +kernel
theorem d_L_law_697 : decode m_L_law.2.1 697 = .ok (.aload_n 3, 1) := by decide +kernel
theorem d_L_law_698 : decode m_L_law.2.1 698 = .ok (.iconst 0, 1) := by decide +kernel
theorem d_L_law_699 : decode m_L_law.2.1 699 = .ok (.laload, 1) := by decide +kernel
theorem d_L_law_700 : decode m_L_law.2.1 700 = .ok (.iload 6, 2) := by decide +kernel
theorem d_L_law_702 : decode m_L_law.2.1 702 = .ok (.i2l, 1) := by decide +kernel
theorem d_L_law_703 : decode m_L_law.2.1 703 = .ok (.lcmp, 1) := by decide +kernel
theorem d_L_law_704 : decode m_L_law.2.1 704 = .ok (.ifCond .eq 5, 3) := by decide +kernel
theorem d_L_law_707 : decode m_L_law.2.1 707 = .ok (.iconst 0, 1) := by decide +kernel
theorem d_L_law_708 : decode m_L_law.2.1 708 = .ok (.ireturn, 1) := by decide +kernel
theorem d_L_law_709 : decode m_L_law.2.1 709 = .ok (.goto 232, 3) := by decide +kernel
theorem d_L_law_712 : decode m_L_law.2.1 712 = .ok (.aload_n 1, 1) := by decide +kernel
theorem d_L_law_713 : decode m_L_law.2.1 713 = .ok (.aload_n 0, 1) := by decide +kernel
theorem d_L_law_714 : decode m_L_law.2.1 714 = .ok (.iload 4, 2) := by decide +kernel
theorem d_L_law_716 : decode m_L_law.2.1 716 = .ok (.iconst 1, 1) := by decide +kernel
theorem d_L_law_717 : decode m_L_law.2.1 717 = .ok (.iadd, 1) := by decide +kernel
theorem d_L_law_718 : decode m_L_law.2.1 718 = .ok (.iaload, 1) := by decide +kernel
theorem d_L_law_719 : decode m_L_law.2.1 719 = .ok (.aload_n 3, 1) := by decide +kernel
theorem d_L_law_720 : decode m_L_law.2.1 720 = .ok (.invokestatic 106, 3) := by decide +kernel
theorem d_L_law_723 : decode m_L_law.2.1 723 = .ok (.istore 5, 2) := by decide +kernel
theorem d_L_law_725 : decode m_L_law.2.1 725 = .ok (.aload_n 2, 1) := by decide +kernel
theorem d_L_law_726 : decode m_L_law.2.1 726 = .ok (.aload_n 0, 1) := by decide +kernel
theorem d_L_law_727 : decode m_L_law.2.1 727 = .ok (.iload 4, 2) := by decide +kernel
theorem d_L_law_729 : decode m_L_law.2.1 729 = .ok (.iconst 1, 1) := by decide +kernel
theorem d_L_law_730 : decode m_L_law.2.1 730 = .ok (.iadd, 1) := by decide +kernel
theorem d_L_law_731 : decode m_L_law.2.1 731 = .ok (.iaload, 1) := by decide +kernel
theorem d_L_law_732 : decode m_L_law.2.1 732 = .ok (.invokevirtual 108, 3) := by decide +kernel
theorem d_L_law_735 : decode m_L_law.2.1 735 = .ok (.istore 6, 2) := by decide +kernel
theorem d_L_law_737 : decode m_L_law.2.1 737 = .ok (.aload_n 2, 1) := by decide +kernel
theorem d_L_law_738 : decode m_L_law.2.1 738 = .ok (.invokevirtual 72, 3) := by decide +kernel
theorem d_L_law_741 : decode m_L_law.2.1 741 = .ok (.iload 5, 2) := by decide +kernel
theorem d_L_law_743 : decode m_L_law.2.1 743 = .ok (.if_icmp .eq 5, 3) := by decide +kernel
theorem d_L_law_746 : decode m_L_law.2.1 746 = .ok (.iconst 0, 1) := by decide +kernel
theorem d_L_law_747 : decode m_L_law.2.1 747 = .ok (.ireturn, 1) := by decide +kernel
theorem d_L_law_748 : decode m_L_law.2.1 748 = .ok (.iload 5, 2) := by decide +kernel
theorem d_L_law_750 : decode m_L_law.2.1 750 = .ok (.ifCond .ne 15, 3) := by decide +kernel
theorem d_L_law_753 : decode m_L_law.2.1 753 = .ok (.aload_n 3, 1) := by decide +kernel
theorem d_L_law_754 : decode m_L_law.2.1 754 = .ok (.iconst 0, 1) := by decide +kernel
theorem d_L_law_755 : decode m_L_law.2.1 755 = .ok (.laload, 1) := by decide +kernel
theorem d_L_law_756 : decode m_L_law.2.1 756 = .ok (.iload 6, 2) := by decide +kernel
theorem d_L_law_758 : decode m_L_law.2.1 758 = .ok (.i2l, 1) := by decide +kernel
theorem d_L_law_759 : decode m_L_law.2.1 759 = .ok (.lcmp, 1) := by decide +kernel
theorem d_L_law_760 : decode m_L_law.2.1 760 = .ok (.ifCond .eq 5, 3) := by decide +kernel
theorem d_L_law_763 : decode m_L_law.2.1 763 = .ok (.iconst 0, 1) := by decide +kernel
theorem d_L_law_764 : decode m_L_law.2.1 764 = .ok (.ireturn, 1) := by decide +kernel
theorem d_L_law_765 : decode m_L_law.2.1 765 = .ok (.goto 176, 3) := by decide +kernel
theorem d_L_law_768 : decode m_L_law.2.1 768 = .ok (.aload_n 1, 1) := by decide +kernel
theorem d_L_law_769 : decode m_L_law.2.1 769 = .ok (.aload_n 0, 1) := by decide +kernel
theorem d_L_law_770 : decode m_L_law.2.1 770 = .ok (.iload 4, 2) := by decide +kernel
theorem d_L_law_772 : decode m_L_law.2.1 772 = .ok (.iconst 1, 1) := by decide +kernel
theorem d_L_law_773 : decode m_L_law.2.1 773 = .ok (.iadd, 1) := by decide +kernel
theorem d_L_law_774 : decode m_L_law.2.1 774 = .ok (.iaload, 1) := by decide +kernel
theorem d_L_law_775 : decode m_L_law.2.1 775 = .ok (.invokestatic 109, 3) := by decide +kernel
theorem d_L_law_778 : decode m_L_law.2.1 778 = .ok (.istore 5, 2) := by decide +kernel
theorem d_L_law_780 : decode m_L_law.2.1 780 = .ok (.aload_n 2, 1) := by decide +kernel
theorem d_L_law_781 : decode m_L_law.2.1 781 = .ok (.aload_n 0, 1) := by decide +kernel
theorem d_L_law_782 : decode m_L_law.2.1 782 = .ok (.iload 4, 2) := by decide +kernel
theorem d_L_law_784 : decode m_L_law.2.1 784 = .ok (.iconst 1, 1) := by decide +kernel
theorem d_L_law_785 : decode m_L_law.2.1 785 = .ok (.iadd, 1) := by decide +kernel
theorem d_L_law_786 : decode m_L_law.2.1 786 = .ok (.iaload, 1) := by decide +kernel
theorem d_L_law_787 : decode m_L_law.2.1 787 = .ok (.invokevirtual 111, 3) := by decide +kernel
theorem d_L_law_790 : decode m_L_law.2.1 790 = .ok (.aload_n 2, 1) := by decide +kernel
theorem d_L_law_791 : decode m_L_law.2.1 791 = .ok (.invokevirtual 72, 3) := by decide +kernel
theorem d_L_law_794 : decode m_L_law.2.1 794 = .ok (.iload 5, 2) := by decide +kernel
theorem d_L_law_796 : decode m_L_law.2.1 796 = .ok (.if_icmp .eq 5, 3) := by decide +kernel
theorem d_L_law_799 : decode m_L_law.2.1 799 = .ok (.iconst 0, 1) := by decide +kernel
theorem d_L_law_800 : decode m_L_law.2.1 800 = .ok (.ireturn, 1) := by decide +kernel
theorem d_L_law_801 : decode m_L_law.2.1 801 = .ok (.goto 140, 3) := by decide +kernel
theorem d_L_law_804 : decode m_L_law.2.1 804 = .ok (.aload_n 1, 1) := by decide +kernel
theorem d_L_law_805 : decode m_L_law.2.1 805 = .ok (.aload_n 3, 1) := by decide +kernel
theorem d_L_law_806 : decode m_L_law.2.1 806 = .ok (.invokestatic 112, 3) := by decide +kernel
theorem d_L_law_809 : decode m_L_law.2.1 809 = .ok (.istore 5, 2) := by decide +kernel
theorem d_L_law_811 : decode m_L_law.2.1 811 = .ok (.aload_n 2, 1) := by decide +kernel
theorem d_L_law_812 : decode m_L_law.2.1 812 = .ok (.invokevirtual 115, 3) := by decide +kernel
theorem d_L_law_815 : decode m_L_law.2.1 815 = .ok (.istore 6, 2) := by decide +kernel
theorem d_L_law_817 : decode m_L_law.2.1 817 = .ok (.aload_n 2, 1) := by decide +kernel
theorem d_L_law_818 : decode m_L_law.2.1 818 = .ok (.invokevirtual 72, 3) := by decide +kernel
theorem d_L_law_821 : decode m_L_law.2.1 821 = .ok (.iload 5, 2) := by decide +kernel
theorem d_L_law_823 : decode m_L_law.2.1 823 = .ok (.if_icmp .eq 5, 3) := by decide +kernel
theorem d_L_law_826 : decode m_L_law.2.1 826 = .ok (.iconst 0, 1) := by decide +kernel
theorem d_L_law_827 : decode m_L_law.2.1 827 = .ok (.ireturn, 1) := by decide +kernel
theorem d_L_law_828 : decode m_L_law.2.1 828 = .ok (.iload 5, 2) := by decide +kernel
theorem d_L_law_830 : decode m_L_law.2.1 830 = .ok (.ifCond .ne 15, 3) := by decide +kernel
theorem d_L_law_833 : decode m_L_law.2.1 833 = .ok (.aload_n 3, 1) := by decide +kernel
theorem d_L_law_834 : decode m_L_law.2.1 834 = .ok (.iconst 0, 1) := by decide +kernel
theorem d_L_law_835 : decode m_L_law.2.1 835 = .ok (.laload, 1) := by decide +kernel
theorem d_L_law_836 : decode m_L_law.2.1 836 = .ok (.iload 6, 2) := by decide +kernel
theorem d_L_law_838 : decode m_L_law.2.1 838 = .ok (.i2l, 1) := by decide +kernel
theorem d_L_law_839 : decode m_L_law.2.1 839 = .ok (.lcmp, 1) := by decide +kernel
theorem d_L_law_840 : decode m_L_law.2.1 840 = .ok (.ifCond .eq 5, 3) := by decide +kernel
theorem d_L_law_843 : decode m_L_law.2.1 843 = .ok (.iconst 0, 1) := by decide +kernel
theorem d_L_law_844 : decode m_L_law.2.1 844 = .ok (.ireturn, 1) := by decide +kernel
theorem d_L_law_845 : decode m_L_law.2.1 845 = .ok (.goto 96, 3) := by decide +kernel
theorem d_L_law_848 : decode m_L_law.2.1 848 = .ok (.aload_n 1, 1) := by decide +kernel
theorem d_L_law_849 : decode m_L_law.2.1 849 = .ok (.aload_n 0, 1) := by decide +kernel
theorem d_L_law_850 : decode m_L_law.2.1 850 = .ok (.iload 4, 2) := by decide +kernel
theorem d_L_law_852 : decode m_L_law.2.1 852 = .ok (.iconst 1, 1) := by decide +kernel
theorem d_L_law_853 : decode m_L_law.2.1 853 = .ok (.iadd, 1) := by decide +kernel
theorem d_L_law_854 : decode m_L_law.2.1 854 = .ok (.iaload, 1) := by decide +kernel
theorem d_L_law_855 : decode m_L_law.2.1 855 = .ok (.aload_n 0, 1) := by decide +kernel
theorem d_L_law_856 : decode m_L_law.2.1 856 = .ok (.iload 4, 2) := by decide +kernel
theorem d_L_law_858 : decode m_L_law.2.1 858 = .ok (.iconst 2, 1) := by decide +kernel
theorem d_L_law_859 : decode m_L_law.2.1 859 = .ok (.iadd, 1) := by decide +kernel
theorem d_L_law_860 : decode m_L_law.2.1 860 = .ok (.iaload, 1) := by decide +kernel
theorem d_L_law_861 : decode m_L_law.2.1 861 = .ok (.aload_n 3, 1) := by decide +kernel
theorem d_L_law_862 : decode m_L_law.2.1 862 = .ok (.invokestatic 116, 3) := by decide +kernel
theorem d_L_law_865 : decode m_L_law.2.1 865 = .ok (.istore 5, 2) := by decide +kernel
theorem d_L_law_867 : decode m_L_law.2.1 867 = .ok (.aload_n 2, 1) := by decide +kernel
theorem d_L_law_868 : decode m_L_law.2.1 868 = .ok (.aload_n 0, 1) := by decide +kernel
theorem d_L_law_869 : decode m_L_law.2.1 869 = .ok (.iload 4, 2) := by decide +kernel
theorem d_L_law_871 : decode m_L_law.2.1 871 = .ok (.iconst 1, 1) := by decide +kernel
theorem d_L_law_872 : decode m_L_law.2.1 872 = .ok (.iadd, 1) := by decide +kernel
theorem d_L_law_873 : decode m_L_law.2.1 873 = .ok (.iaload, 1) := by decide +kernel
theorem d_L_law_874 : decode m_L_law.2.1 874 = .ok (.aload_n 0, 1) := by decide +kernel
theorem d_L_law_875 : decode m_L_law.2.1 875 = .ok (.iload 4, 2) := by decide +kernel
theorem d_L_law_877 : decode m_L_law.2.1 877 = .ok (.iconst 2, 1) := by decide +kernel
theorem d_L_law_878 : decode m_L_law.2.1 878 = .ok (.iadd, 1) := by decide +kernel
theorem d_L_law_879 : decode m_L_law.2.1 879 = .ok (.iaload, 1) := by decide +kernel
theorem d_L_law_880 : decode m_L_law.2.1 880 = .ok (.invokevirtual 118, 3) := by decide +kernel
theorem d_L_law_883 : decode m_L_law.2.1 883 = .ok (.istore 6, 2) := by decide +kernel
theorem d_L_law_885 : decode m_L_law.2.1 885 = .ok (.aload_n 2, 1) := by decide +kernel
theorem d_L_law_886 : decode m_L_law.2.1 886 = .ok (.invokevirtual 72, 3) := by decide +kernel
theorem d_L_law_889 : decode m_L_law.2.1 889 = .ok (.iload 5, 2) := by decide +kernel
theorem d_L_law_891 : decode m_L_law.2.1 891 = .ok (.if_icmp .eq 5, 3) := by decide +kernel
theorem d_L_law_894 : decode m_L_law.2.1 894 = .ok (.iconst 0, 1) := by decide +kernel
theorem d_L_law_895 : decode m_L_law.2.1 895 = .ok (.ireturn, 1) := by decide +kernel
theorem d_L_law_896 : decode m_L_law.2.1 896 = .ok (.iload 5, 2) := by decide +kernel
theorem d_L_law_898 : decode m_L_law.2.1 898 = .ok (.ifCond .ne 15, 3) := by decide +kernel
theorem d_L_law_901 : decode m_L_law.2.1 901 = .ok (.aload_n 3, 1) := by decide +kernel
theorem d_L_law_902 : decode m_L_law.2.1 902 = .ok (.iconst 0, 1) := by decide +kernel
theorem d_L_law_903 : decode m_L_law.2.1 903 = .ok (.laload, 1) := by decide +kernel
theorem d_L_law_904 : decode m_L_law.2.1 904 = .ok (.iload 6, 2) := by decide +kernel
theorem d_L_law_906 : decode m_L_law.2.1 906 = .ok (.i2l, 1) := by decide +kernel
theorem d_L_law_907 : decode m_L_law.2.1 907 = .ok (.lcmp, 1) := by decide +kernel
theorem d_L_law_908 : decode m_L_law.2.1 908 = .ok (.ifCond .eq 5, 3) := by decide +kernel
theorem d_L_law_911 : decode m_L_law.2.1 911 = .ok (.iconst 0, 1) := by decide +kernel
theorem d_L_law_912 : decode m_L_law.2.1 912 = .ok (.ireturn, 1) := by decide +kernel
theorem d_L_law_913 : decode m_L_law.2.1 913 = .ok (.goto 28, 3) := by decide +kernel
theorem d_L_law_916 : decode m_L_law.2.1 916 = .ok (.aload_n 1, 1) := by decide +kernel
theorem d_L_law_917 : decode m_L_law.2.1 917 = .ok (.aload_n 0, 1) := by decide +kernel
theorem d_L_law_918 : decode m_L_law.2.1 918 = .ok (.iload 4, 2) := by decide +kernel
theorem d_L_law_920 : decode m_L_law.2.1 920 = .ok (.iconst 1, 1) := by decide +kernel
theorem d_L_law_921 : decode m_L_law.2.1 921 = .ok (.iadd, 1) := by decide +kernel
theorem d_L_law_922 : decode m_L_law.2.1 922 = .ok (.iaload, 1) := by decide +kernel
theorem d_L_law_923 : decode m_L_law.2.1 923 = .ok (.invokevirtual 119, 3) := by decide +kernel
theorem d_L_law_926 : decode m_L_law.2.1 926 = .ok (.aload_n 2, 1) := by decide +kernel
theorem d_L_law_927 : decode m_L_law.2.1 927 = .ok (.aload_n 0, 1) := by decide +kernel
theorem d_L_law_928 : decode m_L_law.2.1 928 = .ok (.iload 4, 2) := by decide +kernel
theorem d_L_law_930 : decode m_L_law.2.1 930 = .ok (.iconst 1, 1) := by decide +kernel
theorem d_L_law_931 : decode m_L_law.2.1 931 = .ok (.iadd, 1) := by decide +kernel
theorem d_L_law_932 : decode m_L_law.2.1 932 = .ok (.iaload, 1) := by decide +kernel
theorem d_L_law_933 : decode m_L_law.2.1 933 = .ok (.invokevirtual 122, 3) := by decide +kernel
theorem d_L_law_936 : decode m_L_law.2.1 936 = .ok (.if_icmp .eq 5, 3) := by decide +kernel
theorem d_L_law_939 : decode m_L_law.2.1 939 = .ok (.iconst 0, 1) := by decide +kernel
theorem d_L_law_940 : decode m_L_law.2.1 940 = .ok (.ireturn, 1) := by decide +kernel
theorem d_L_law_941 : decode m_L_law.2.1 941 = .ok (.iinc 4 5, 3) := by decide +kernel
theorem d_L_law_944 : decode m_L_law.2.1 944 = .ok (.goto (-921), 3) := by decide +kernel
theorem d_L_law_947 : decode m_L_law.2.1 947 = .ok (.iconst 1, 1) := by decide +kernel
theorem d_L_law_948 : decode m_L_law.2.1 948 = .ok (.ireturn, 1) := by decide +kernel
