theorem dL_line_0 : decode cL_line 0 = .ok (.aload_n 3, 1) := by decide +kernel
theorem dL_line_1 : decode cL_line 1 = .ok (.iconst 0, 1) := by decide +kernel
theorem dL_line_2 : decode cL_line 2 = .ok (.aload_n 0, 1) := by decide +kernel
theorem dL_line_3 : decode cL_line 3 = .ok (.iload_n 1, 1) := by decide +kernel
theorem dL_line_4 : decode cL_line 4 = .ok (.iload_n 2, 1) := by decide +kernel
theorem dL_line_5 : decode cL_line 5 = .ok (.invokevirtual 7, 3) := by decide +kernel
theorem dL_line_8 : decode cL_line 8 = .ok (.ifCond .eq 7, 3) := by decide +kernel
theorem dL_line_11 : decode cL_line 11 = .ok (.lconst 1, 1) := by decide +kernel
theorem dL_line_12 : decode cL_line 12 = .ok (.goto 4, 3) := by decide +kernel
theorem dL_line_15 : decode cL_line 15 = .ok (.lconst 0, 1) := by decide +kernel
theorem dL_line_16 : decode cL_line 16 = .ok (.lastore, 1) := by decide +kernel
theorem dL_line_17 : decode cL_line 17 = .ok (.goto 7, 3) := by decide +kernel
theorem dL_line_20 : decode cL_line 20 = .ok (.astore 4, 2) := by decide +kernel
theorem dL_line_22 : decode cL_line 22 = .ok (.iconst 1, 1) := by decide +kernel
theorem dL_line_23 : decode cL_line 23 = .ok (.ireturn, 1) := by decide +kernel
theorem dL_line_24 : decode cL_line 24 = .ok (.iconst 0, 1) := by decide +kernel
theorem dL_line_25 : decode cL_line 25 = .ok (.ireturn, 1) := by decide +kernel
theorem dL_write_0 : decode cL_write 0 = .ok (.aload 4, 2) := by decide +kernel
theorem dL_write_2 : decode cL_write 2 = .ok (.iconst 0, 1) := by decide +kernel
theorem dL_write_3 : decode cL_write 3 = .ok (.aload_n 0, 1) := by decide +kernel
theorem dL_write_4 : decode cL_write 4 = .ok (.iload_n 1, 1) := by decide +kernel
theorem dL_write_5 : decode cL_write 5 = .ok (.iload_n 2, 1) := by decide +kernel
theorem dL_write_6 : decode cL_write 6 = .ok (.iload_n 3, 1) := by decide +kernel
theorem dL_write_7 : decode cL_write 7 = .ok (.invokevirtual 15, 3) := by decide +kernel
theorem dL_write_10 : decode cL_write 10 = .ok (.ifCond .eq 7, 3) := by decide +kernel
theorem dL_write_13 : decode cL_write 13 = .ok (.lconst 1, 1) := by decide +kernel
theorem dL_write_14 : decode cL_write 14 = .ok (.goto 4, 3) := by decide +kernel
theorem dL_write_17 : decode cL_write 17 = .ok (.lconst 0, 1) := by decide +kernel
theorem dL_write_18 : decode cL_write 18 = .ok (.lastore, 1) := by decide +kernel
theorem dL_write_19 : decode cL_write 19 = .ok (.goto 11, 3) := by decide +kernel
theorem dL_write_22 : decode cL_write 22 = .ok (.astore 5, 2) := by decide +kernel
theorem dL_write_24 : decode cL_write 24 = .ok (.iconst 1, 1) := by decide +kernel
theorem dL_write_25 : decode cL_write 25 = .ok (.ireturn, 1) := by decide +kernel
theorem dL_write_26 : decode cL_write 26 = .ok (.astore 5, 2) := by decide +kernel
theorem dL_write_28 : decode cL_write 28 = .ok (.iconst 2, 1) := by decide +kernel
theorem dL_write_29 : decode cL_write 29 = .ok (.ireturn, 1) := by decide +kernel
theorem dL_write_30 : decode cL_write 30 = .ok (.iconst 0, 1) := by decide +kernel
theorem dL_write_31 : decode cL_write 31 = .ok (.ireturn, 1) := by decide +kernel
theorem dL_read_0 : decode cL_read 0 = .ok (.aload_n 3, 1) := by decide +kernel
theorem dL_read_1 : decode cL_read 1 = .ok (.iconst 0, 1) := by decide +kernel
theorem dL_read_2 : decode cL_read 2 = .ok (.aload_n 0, 1) := by decide +kernel
theorem dL_read_3 : decode cL_read 3 = .ok (.iload_n 1, 1) := by decide +kernel
theorem dL_read_4 : decode cL_read 4 = .ok (.iload_n 2, 1) := by decide +kernel
theorem dL_read_5 : decode cL_read 5 = .ok (.invokevirtual 21, 3) := by decide +kernel
theorem dL_read_8 : decode cL_read 8 = .ok (.i2l, 1) := by decide +kernel
theorem dL_read_9 : decode cL_read 9 = .ok (.lastore, 1) := by decide +kernel
theorem dL_read_10 : decode cL_read 10 = .ok (.goto 7, 3) := by decide +kernel
theorem dL_read_13 : decode cL_read 13 = .ok (.astore 4, 2) := by decide +kernel
theorem dL_read_15 : decode cL_read 15 = .ok (.iconst 1, 1) := by decide +kernel
theorem dL_read_16 : decode cL_read 16 = .ok (.ireturn, 1) := by decide +kernel
theorem dL_read_17 : decode cL_read 17 = .ok (.iconst 0, 1) := by decide +kernel
theorem dL_read_18 : decode cL_read 18 = .ok (.ireturn, 1) := by decide +kernel
theorem dL_delivers_0 : decode cL_delivers 0 = .ok (.aload_n 2, 1) := by decide +kernel
theorem dL_delivers_1 : decode cL_delivers 1 = .ok (.iconst 0, 1) := by decide +kernel
theorem dL_delivers_2 : decode cL_delivers 2 = .ok (.aload_n 0, 1) := by decide +kernel
theorem dL_delivers_3 : decode cL_delivers 3 = .ok (.iload_n 1, 1) := by decide +kernel
theorem dL_delivers_4 : decode cL_delivers 4 = .ok (.invokevirtual 25, 3) := by decide +kernel
theorem dL_delivers_7 : decode cL_delivers 7 = .ok (.i2l, 1) := by decide +kernel
theorem dL_delivers_8 : decode cL_delivers 8 = .ok (.lastore, 1) := by decide +kernel
theorem dL_delivers_9 : decode cL_delivers 9 = .ok (.goto 6, 3) := by decide +kernel
theorem dL_delivers_12 : decode cL_delivers 12 = .ok (.astore_n 3, 1) := by decide +kernel
theorem dL_delivers_13 : decode cL_delivers 13 = .ok (.iconst 1, 1) := by decide +kernel
theorem dL_delivers_14 : decode cL_delivers 14 = .ok (.ireturn, 1) := by decide +kernel
theorem dL_delivers_15 : decode cL_delivers 15 = .ok (.iconst 0, 1) := by decide +kernel
theorem dL_delivers_16 : decode cL_delivers 16 = .ok (.ireturn, 1) := by decide +kernel
theorem dL_about_0 : decode cL_about 0 = .ok (.aload_n 3, 1) := by decide +kernel
theorem dL_about_1 : decode cL_about 1 = .ok (.iconst 0, 1) := by decide +kernel
theorem dL_about_2 : decode cL_about 2 = .ok (.aload_n 0, 1) := by decide +kernel
theorem dL_about_3 : decode cL_about 3 = .ok (.iload_n 1, 1) := by decide +kernel
theorem dL_about_4 : decode cL_about 4 = .ok (.iload_n 2, 1) := by decide +kernel
theorem dL_about_5 : decode cL_about 5 = .ok (.invokevirtual 29, 3) := by decide +kernel
theorem dL_about_8 : decode cL_about 8 = .ok (.i2l, 1) := by decide +kernel
theorem dL_about_9 : decode cL_about 9 = .ok (.lastore, 1) := by decide +kernel
theorem dL_about_10 : decode cL_about 10 = .ok (.goto 11, 3) := by decide +kernel
theorem dL_about_13 : decode cL_about 13 = .ok (.astore 4, 2) := by decide +kernel
theorem dL_about_15 : decode cL_about 15 = .ok (.iconst 1, 1) := by decide +kernel
theorem dL_about_16 : decode cL_about 16 = .ok (.ireturn, 1) := by decide +kernel
theorem dL_about_17 : decode cL_about 17 = .ok (.astore 4, 2) := by decide +kernel
theorem dL_about_19 : decode cL_about 19 = .ok (.iconst 2, 1) := by decide +kernel
theorem dL_about_20 : decode cL_about 20 = .ok (.ireturn, 1) := by decide +kernel
theorem dL_about_21 : decode cL_about 21 = .ok (.iconst 0, 1) := by decide +kernel
theorem dL_about_22 : decode cL_about 22 = .ok (.ireturn, 1) := by decide +kernel
theorem dL_mode_0 : decode cL_mode 0 = .ok (.aload_n 3, 1) := by decide +kernel
theorem dL_mode_1 : decode cL_mode 1 = .ok (.iconst 0, 1) := by decide +kernel
theorem dL_mode_2 : decode cL_mode 2 = .ok (.aload_n 0, 1) := by decide +kernel
theorem dL_mode_3 : decode cL_mode 3 = .ok (.iload_n 1, 1) := by decide +kernel
theorem dL_mode_4 : decode cL_mode 4 = .ok (.iload_n 2, 1) := by decide +kernel
theorem dL_mode_5 : decode cL_mode 5 = .ok (.invokevirtual 32, 3) := by decide +kernel
theorem dL_mode_8 : decode cL_mode 8 = .ok (.ifCond .eq 7, 3) := by decide +kernel
theorem dL_mode_11 : decode cL_mode 11 = .ok (.lconst 1, 1) := by decide +kernel
theorem dL_mode_12 : decode cL_mode 12 = .ok (.goto 4, 3) := by decide +kernel
theorem dL_mode_15 : decode cL_mode 15 = .ok (.lconst 0, 1) := by decide +kernel
theorem dL_mode_16 : decode cL_mode 16 = .ok (.lastore, 1) := by decide +kernel
theorem dL_mode_17 : decode cL_mode 17 = .ok (.goto 11, 3) := by decide +kernel
theorem dL_mode_20 : decode cL_mode 20 = .ok (.astore 4, 2) := by decide +kernel
theorem dL_mode_22 : decode cL_mode 22 = .ok (.iconst 1, 1) := by decide +kernel
theorem dL_mode_23 : decode cL_mode 23 = .ok (.ireturn, 1) := by decide +kernel
theorem dL_mode_24 : decode cL_mode 24 = .ok (.astore 4, 2) := by decide +kernel
theorem dL_mode_26 : decode cL_mode 26 = .ok (.iconst 2, 1) := by decide +kernel
theorem dL_mode_27 : decode cL_mode 27 = .ok (.ireturn, 1) := by decide +kernel
theorem dL_mode_28 : decode cL_mode 28 = .ok (.iconst 0, 1) := by decide +kernel
theorem dL_mode_29 : decode cL_mode 29 = .ok (.ireturn, 1) := by decide +kernel
theorem dL_count_0 : decode cL_count 0 = .ok (.aload_n 2, 1) := by decide +kernel
theorem dL_count_1 : decode cL_count 1 = .ok (.iconst 0, 1) := by decide +kernel
theorem dL_count_2 : decode cL_count 2 = .ok (.aload_n 0, 1) := by decide +kernel
theorem dL_count_3 : decode cL_count 3 = .ok (.iload_n 1, 1) := by decide +kernel
theorem dL_count_4 : decode cL_count 4 = .ok (.invokevirtual 36, 3) := by decide +kernel
theorem dL_count_7 : decode cL_count 7 = .ok (.i2l, 1) := by decide +kernel
theorem dL_count_8 : decode cL_count 8 = .ok (.lastore, 1) := by decide +kernel
theorem dL_count_9 : decode cL_count 9 = .ok (.goto 6, 3) := by decide +kernel
theorem dL_count_12 : decode cL_count 12 = .ok (.astore_n 3, 1) := by decide +kernel
theorem dL_count_13 : decode cL_count 13 = .ok (.iconst 1, 1) := by decide +kernel
theorem dL_count_14 : decode cL_count 14 = .ok (.ireturn, 1) := by decide +kernel
theorem dL_count_15 : decode cL_count 15 = .ok (.iconst 0, 1) := by decide +kernel
theorem dL_count_16 : decode cL_count 16 = .ok (.ireturn, 1) := by decide +kernel
