theorem dX0_init_0 : decode cX0_init 0 = .ok (.aload_n 0, 1) := by decide +kernel
theorem dX0_init_1 : decode cX0_init 1 = .ok (.invokespecial 1, 3) := by decide +kernel
theorem dX0_init_4 : decode cX0_init 4 = .ok (.aload_n 0, 1) := by decide +kernel
theorem dX0_init_5 : decode cX0_init 5 = .ok (.new 7, 3) := by decide +kernel
theorem dX0_init_8 : decode cX0_init 8 = .ok (.dup, 1) := by decide +kernel
theorem dX0_init_9 : decode cX0_init 9 = .ok (.iconst 2, 1) := by decide +kernel
theorem dX0_init_10 : decode cX0_init 10 = .ok (.invokespecial 11, 3) := by decide +kernel
theorem dX0_init_13 : decode cX0_init 13 = .ok (.putfield 14, 3) := by decide +kernel
theorem dX0_init_16 : decode cX0_init 16 = .ok (.aload_n 0, 1) := by decide +kernel
theorem dX0_init_17 : decode cX0_init 17 = .ok (.new 7, 3) := by decide +kernel
theorem dX0_init_20 : decode cX0_init 20 = .ok (.dup, 1) := by decide +kernel
theorem dX0_init_21 : decode cX0_init 21 = .ok (.iconst (-1), 1) := by decide +kernel
theorem dX0_init_22 : decode cX0_init 22 = .ok (.invokespecial 11, 3) := by decide +kernel
theorem dX0_init_25 : decode cX0_init 25 = .ok (.putfield 18, 3) := by decide +kernel
theorem dX0_init_28 : decode cX0_init 28 = .ok (.aload_n 0, 1) := by decide +kernel
theorem dX0_init_29 : decode cX0_init 29 = .ok (.iconst 0, 1) := by decide +kernel
theorem dX0_init_30 : decode cX0_init 30 = .ok (.putfield 21, 3) := by decide +kernel
theorem dX0_init_33 : decode cX0_init 33 = .ok (.return_, 1) := by decide +kernel
theorem dX0_line_0 : decode cX0_line 0 = .ok (.iload_n 1, 1) := by decide +kernel
theorem dX0_line_1 : decode cX0_line 1 = .ok (.ifCond .lt 14, 3) := by decide +kernel
theorem dX0_line_4 : decode cX0_line 4 = .ok (.iload_n 1, 1) := by decide +kernel
theorem dX0_line_5 : decode cX0_line 5 = .ok (.bipush 16, 2) := by decide +kernel
theorem dX0_line_7 : decode cX0_line 7 = .ok (.if_icmp .ge 8, 3) := by decide +kernel
theorem dX0_line_10 : decode cX0_line 10 = .ok (.iload_n 1, 1) := by decide +kernel
theorem dX0_line_11 : decode cX0_line 11 = .ok (.iconst 2, 1) := by decide +kernel
theorem dX0_line_12 : decode cX0_line 12 = .ok (.if_icmp .ne 11, 3) := by decide +kernel
theorem dX0_line_15 : decode cX0_line 15 = .ok (.new 25, 3) := by decide +kernel
theorem dX0_line_18 : decode cX0_line 18 = .ok (.dup, 1) := by decide +kernel
theorem dX0_line_19 : decode cX0_line 19 = .ok (.invokespecial 27, 3) := by decide +kernel
theorem dX0_line_22 : decode cX0_line 22 = .ok (.athrow, 1) := by decide +kernel
theorem dX0_line_23 : decode cX0_line 23 = .ok (.iload_n 1, 1) := by decide +kernel
theorem dX0_line_24 : decode cX0_line 24 = .ok (.bipush 8, 2) := by decide +kernel
theorem dX0_line_26 : decode cX0_line 26 = .ok (.if_icmp .ge 15, 3) := by decide +kernel
theorem dX0_line_29 : decode cX0_line 29 = .ok (.aload_n 0, 1) := by decide +kernel
theorem dX0_line_30 : decode cX0_line 30 = .ok (.getfield 14, 3) := by decide +kernel
theorem dX0_line_33 : decode cX0_line 33 = .ok (.iload_n 1, 1) := by decide +kernel
theorem dX0_line_34 : decode cX0_line 34 = .ok (.iload_n 2, 1) := by decide +kernel
theorem dX0_line_35 : decode cX0_line 35 = .ok (.invokevirtual 28, 3) := by decide +kernel
theorem dX0_line_38 : decode cX0_line 38 = .ok (.goto 15, 3) := by decide +kernel
theorem dX0_line_41 : decode cX0_line 41 = .ok (.aload_n 0, 1) := by decide +kernel
theorem dX0_line_42 : decode cX0_line 42 = .ok (.getfield 18, 3) := by decide +kernel
theorem dX0_line_45 : decode cX0_line 45 = .ok (.iload_n 1, 1) := by decide +kernel
theorem dX0_line_46 : decode cX0_line 46 = .ok (.bipush 8, 2) := by decide +kernel
theorem dX0_line_48 : decode cX0_line 48 = .ok (.isub, 1) := by decide +kernel
theorem dX0_line_49 : decode cX0_line 49 = .ok (.iload_n 2, 1) := by decide +kernel
theorem dX0_line_50 : decode cX0_line 50 = .ok (.invokevirtual 28, 3) := by decide +kernel
theorem dX0_line_53 : decode cX0_line 53 = .ok (.istore_n 3, 1) := by decide +kernel
theorem dX0_line_54 : decode cX0_line 54 = .ok (.aload_n 0, 1) := by decide +kernel
theorem dX0_line_55 : decode cX0_line 55 = .ok (.invokevirtual 32, 3) := by decide +kernel
theorem dX0_line_58 : decode cX0_line 58 = .ok (.iload_n 3, 1) := by decide +kernel
theorem dX0_line_59 : decode cX0_line 59 = .ok (.ireturn, 1) := by decide +kernel
theorem dX0_write_0 : decode cX0_write 0 = .ok (.aload_n 0, 1) := by decide +kernel
theorem dX0_write_1 : decode cX0_write 1 = .ok (.iload_n 1, 1) := by decide +kernel
theorem dX0_write_2 : decode cX0_write 2 = .ok (.invokevirtual 35, 3) := by decide +kernel
theorem dX0_write_5 : decode cX0_write 5 = .ok (.astore 4, 2) := by decide +kernel
theorem dX0_write_7 : decode cX0_write 7 = .ok (.aload_n 0, 1) := by decide +kernel
theorem dX0_write_8 : decode cX0_write 8 = .ok (.iload_n 2, 1) := by decide +kernel
theorem dX0_write_9 : decode cX0_write 9 = .ok (.invokevirtual 39, 3) := by decide +kernel
theorem dX0_write_12 : decode cX0_write 12 = .ok (.iload_n 3, 1) := by decide +kernel
theorem dX0_write_13 : decode cX0_write 13 = .ok (.ifCond .lt 10, 3) := by decide +kernel
theorem dX0_write_16 : decode cX0_write 16 = .ok (.iload_n 3, 1) := by decide +kernel
theorem dX0_write_17 : decode cX0_write 17 = .ok (.sipush 255, 3) := by decide +kernel
theorem dX0_write_20 : decode cX0_write 20 = .ok (.if_icmp .le 11, 3) := by decide +kernel
theorem dX0_write_23 : decode cX0_write 23 = .ok (.new 42, 3) := by decide +kernel
theorem dX0_write_26 : decode cX0_write 26 = .ok (.dup, 1) := by decide +kernel
theorem dX0_write_27 : decode cX0_write 27 = .ok (.invokespecial 44, 3) := by decide +kernel
theorem dX0_write_30 : decode cX0_write 30 = .ok (.athrow, 1) := by decide +kernel
theorem dX0_write_31 : decode cX0_write 31 = .ok (.iload_n 2, 1) := by decide +kernel
theorem dX0_write_32 : decode cX0_write 32 = .ok (.ifCond .ne 12, 3) := by decide +kernel
theorem dX0_write_35 : decode cX0_write 35 = .ok (.aload 4, 2) := by decide +kernel
theorem dX0_write_37 : decode cX0_write 37 = .ok (.iload_n 3, 1) := by decide +kernel
theorem dX0_write_38 : decode cX0_write 38 = .ok (.invokevirtual 45, 3) := by decide +kernel
theorem dX0_write_41 : decode cX0_write 41 = .ok (.goto 9, 3) := by decide +kernel
theorem dX0_write_44 : decode cX0_write 44 = .ok (.aload 4, 2) := by decide +kernel
theorem dX0_write_46 : decode cX0_write 46 = .ok (.iload_n 3, 1) := by decide +kernel
theorem dX0_write_47 : decode cX0_write 47 = .ok (.invokevirtual 48, 3) := by decide +kernel
theorem dX0_write_50 : decode cX0_write 50 = .ok (.aload_n 0, 1) := by decide +kernel
theorem dX0_write_51 : decode cX0_write 51 = .ok (.invokevirtual 32, 3) := by decide +kernel
theorem dX0_write_54 : decode cX0_write 54 = .ok (.aload_n 0, 1) := by decide +kernel
theorem dX0_write_55 : decode cX0_write 55 = .ok (.getfield 14, 3) := by decide +kernel
theorem dX0_write_58 : decode cX0_write 58 = .ok (.invokevirtual 51, 3) := by decide +kernel
theorem dX0_write_61 : decode cX0_write 61 = .ok (.iconst (-1), 1) := by decide +kernel
theorem dX0_write_62 : decode cX0_write 62 = .ok (.if_icmp .eq 7, 3) := by decide +kernel
theorem dX0_write_65 : decode cX0_write 65 = .ok (.iconst 1, 1) := by decide +kernel
theorem dX0_write_66 : decode cX0_write 66 = .ok (.goto 4, 3) := by decide +kernel
theorem dX0_write_69 : decode cX0_write 69 = .ok (.iconst 0, 1) := by decide +kernel
theorem dX0_write_70 : decode cX0_write 70 = .ok (.ireturn, 1) := by decide +kernel
theorem dX0_read_0 : decode cX0_read 0 = .ok (.aload_n 0, 1) := by decide +kernel
theorem dX0_read_1 : decode cX0_read 1 = .ok (.iload_n 1, 1) := by decide +kernel
theorem dX0_read_2 : decode cX0_read 2 = .ok (.invokevirtual 35, 3) := by decide +kernel
theorem dX0_read_5 : decode cX0_read 5 = .ok (.astore_n 3, 1) := by decide +kernel
theorem dX0_read_6 : decode cX0_read 6 = .ok (.aload_n 0, 1) := by decide +kernel
theorem dX0_read_7 : decode cX0_read 7 = .ok (.iload_n 2, 1) := by decide +kernel
theorem dX0_read_8 : decode cX0_read 8 = .ok (.invokevirtual 39, 3) := by decide +kernel
theorem dX0_read_11 : decode cX0_read 11 = .ok (.iload_n 2, 1) := by decide +kernel
theorem dX0_read_12 : decode cX0_read 12 = .ok (.iconst 1, 1) := by decide +kernel
theorem dX0_read_13 : decode cX0_read 13 = .ok (.if_icmp .ne 8, 3) := by decide +kernel
theorem dX0_read_16 : decode cX0_read 16 = .ok (.aload_n 3, 1) := by decide +kernel
theorem dX0_read_17 : decode cX0_read 17 = .ok (.getfield 55, 3) := by decide +kernel
theorem dX0_read_20 : decode cX0_read 20 = .ok (.ireturn, 1) := by decide +kernel
theorem dX0_read_21 : decode cX0_read 21 = .ok (.aload_n 3, 1) := by decide +kernel
theorem dX0_read_22 : decode cX0_read 22 = .ok (.invokevirtual 58, 3) := by decide +kernel
theorem dX0_read_25 : decode cX0_read 25 = .ok (.istore 4, 2) := by decide +kernel
theorem dX0_read_27 : decode cX0_read 27 = .ok (.aload_n 0, 1) := by decide +kernel
theorem dX0_read_28 : decode cX0_read 28 = .ok (.invokevirtual 32, 3) := by decide +kernel
theorem dX0_read_31 : decode cX0_read 31 = .ok (.iload 4, 2) := by decide +kernel
theorem dX0_read_33 : decode cX0_read 33 = .ok (.ireturn, 1) := by decide +kernel
theorem dX0_take_0 : decode cX0_take 0 = .ok (.aload_n 0, 1) := by decide +kernel
theorem dX0_take_1 : decode cX0_take 1 = .ok (.getfield 14, 3) := by decide +kernel
theorem dX0_take_4 : decode cX0_take 4 = .ok (.invokevirtual 61, 3) := by decide +kernel
theorem dX0_take_7 : decode cX0_take 7 = .ok (.istore_n 1, 1) := by decide +kernel
theorem dX0_take_8 : decode cX0_take 8 = .ok (.iload_n 1, 1) := by decide +kernel
theorem dX0_take_9 : decode cX0_take 9 = .ok (.iconst (-1), 1) := by decide +kernel
theorem dX0_take_10 : decode cX0_take 10 = .ok (.if_icmp .ne 13, 3) := by decide +kernel
theorem dX0_take_13 : decode cX0_take 13 = .ok (.aload_n 0, 1) := by decide +kernel
theorem dX0_take_14 : decode cX0_take 14 = .ok (.dup, 1) := by decide +kernel
theorem dX0_take_15 : decode cX0_take 15 = .ok (.getfield 21, 3) := by decide +kernel
theorem dX0_take_18 : decode cX0_take 18 = .ok (.iconst 1, 1) := by decide +kernel
theorem dX0_take_19 : decode cX0_take 19 = .ok (.iadd, 1) := by decide +kernel
theorem dX0_take_20 : decode cX0_take 20 = .ok (.putfield 21, 3) := by decide +kernel
theorem dX0_take_23 : decode cX0_take 23 = .ok (.iload_n 1, 1) := by decide +kernel
theorem dX0_take_24 : decode cX0_take 24 = .ok (.iconst 2, 1) := by decide +kernel
theorem dX0_take_25 : decode cX0_take 25 = .ok (.if_icmp .ne 10, 3) := by decide +kernel
theorem dX0_take_28 : decode cX0_take 28 = .ok (.aload_n 0, 1) := by decide +kernel
theorem dX0_take_29 : decode cX0_take 29 = .ok (.invokevirtual 64, 3) := by decide +kernel
theorem dX0_take_32 : decode cX0_take 32 = .ok (.goto 11, 3) := by decide +kernel
theorem dX0_take_35 : decode cX0_take 35 = .ok (.aload_n 0, 1) := by decide +kernel
theorem dX0_take_36 : decode cX0_take 36 = .ok (.getfield 14, 3) := by decide +kernel
theorem dX0_take_39 : decode cX0_take 39 = .ok (.iload_n 1, 1) := by decide +kernel
theorem dX0_take_40 : decode cX0_take 40 = .ok (.invokevirtual 67, 3) := by decide +kernel
theorem dX0_take_43 : decode cX0_take 43 = .ok (.ireturn, 1) := by decide +kernel
theorem dX0_delivers_0 : decode cX0_delivers 0 = .ok (.aload_n 0, 1) := by decide +kernel
theorem dX0_delivers_1 : decode cX0_delivers 1 = .ok (.iload_n 1, 1) := by decide +kernel
theorem dX0_delivers_2 : decode cX0_delivers 2 = .ok (.invokevirtual 35, 3) := by decide +kernel
theorem dX0_delivers_5 : decode cX0_delivers 5 = .ok (.invokevirtual 51, 3) := by decide +kernel
theorem dX0_delivers_8 : decode cX0_delivers 8 = .ok (.ireturn, 1) := by decide +kernel
theorem dX0_about_0 : decode cX0_about 0 = .ok (.aload_n 0, 1) := by decide +kernel
theorem dX0_about_1 : decode cX0_about 1 = .ok (.iload_n 1, 1) := by decide +kernel
theorem dX0_about_2 : decode cX0_about 2 = .ok (.invokevirtual 35, 3) := by decide +kernel
theorem dX0_about_5 : decode cX0_about 5 = .ok (.astore_n 3, 1) := by decide +kernel
theorem dX0_about_6 : decode cX0_about 6 = .ok (.iload_n 2, 1) := by decide +kernel
theorem dX0_about_7 : decode cX0_about 7 = .ok (.tableswitch 85 0 7 #[45, 50, 55, 60, 65, 70, 75, 80], 45) := by decide +kernel
theorem dX0_about_52 : decode cX0_about 52 = .ok (.aload_n 3, 1) := by decide +kernel
theorem dX0_about_53 : decode cX0_about 53 = .ok (.invokevirtual 71, 3) := by decide +kernel
theorem dX0_about_56 : decode cX0_about 56 = .ok (.ireturn, 1) := by decide +kernel
theorem dX0_about_57 : decode cX0_about 57 = .ok (.aload_n 3, 1) := by decide +kernel
theorem dX0_about_58 : decode cX0_about 58 = .ok (.getfield 74, 3) := by decide +kernel
theorem dX0_about_61 : decode cX0_about 61 = .ok (.ireturn, 1) := by decide +kernel
theorem dX0_about_62 : decode cX0_about 62 = .ok (.aload_n 3, 1) := by decide +kernel
theorem dX0_about_63 : decode cX0_about 63 = .ok (.getfield 55, 3) := by decide +kernel
theorem dX0_about_66 : decode cX0_about 66 = .ok (.ireturn, 1) := by decide +kernel
theorem dX0_about_67 : decode cX0_about 67 = .ok (.aload_n 3, 1) := by decide +kernel
theorem dX0_about_68 : decode cX0_about 68 = .ok (.getfield 77, 3) := by decide +kernel
theorem dX0_about_71 : decode cX0_about 71 = .ok (.ireturn, 1) := by decide +kernel
theorem dX0_about_72 : decode cX0_about 72 = .ok (.aload_n 3, 1) := by decide +kernel
theorem dX0_about_73 : decode cX0_about 73 = .ok (.getfield 80, 3) := by decide +kernel
theorem dX0_about_76 : decode cX0_about 76 = .ok (.ireturn, 1) := by decide +kernel
theorem dX0_about_77 : decode cX0_about 77 = .ok (.aload_n 3, 1) := by decide +kernel
theorem dX0_about_78 : decode cX0_about 78 = .ok (.getfield 83, 3) := by decide +kernel
theorem dX0_about_81 : decode cX0_about 81 = .ok (.ireturn, 1) := by decide +kernel
theorem dX0_about_82 : decode cX0_about 82 = .ok (.aload_n 3, 1) := by decide +kernel
theorem dX0_about_83 : decode cX0_about 83 = .ok (.getfield 86, 3) := by decide +kernel
theorem dX0_about_86 : decode cX0_about 86 = .ok (.ireturn, 1) := by decide +kernel
theorem dX0_about_87 : decode cX0_about 87 = .ok (.aload_n 3, 1) := by decide +kernel
theorem dX0_about_88 : decode cX0_about 88 = .ok (.getfield 89, 3) := by decide +kernel
theorem dX0_about_91 : decode cX0_about 91 = .ok (.ireturn, 1) := by decide +kernel
theorem dX0_about_92 : decode cX0_about 92 = .ok (.new 42, 3) := by decide +kernel
theorem dX0_about_95 : decode cX0_about 95 = .ok (.dup, 1) := by decide +kernel
theorem dX0_about_96 : decode cX0_about 96 = .ok (.invokespecial 44, 3) := by decide +kernel
theorem dX0_about_99 : decode cX0_about 99 = .ok (.athrow, 1) := by decide +kernel
theorem dX0_mode_0 : decode cX0_mode 0 = .ok (.aload_n 0, 1) := by decide +kernel
theorem dX0_mode_1 : decode cX0_mode 1 = .ok (.iload_n 1, 1) := by decide +kernel
theorem dX0_mode_2 : decode cX0_mode 2 = .ok (.invokevirtual 35, 3) := by decide +kernel
theorem dX0_mode_5 : decode cX0_mode 5 = .ok (.astore_n 3, 1) := by decide +kernel
theorem dX0_mode_6 : decode cX0_mode 6 = .ok (.iload_n 2, 1) := by decide +kernel
theorem dX0_mode_7 : decode cX0_mode 7 = .ok (.tableswitch 76 0 6 #[41, 46, 51, 56, 61, 66, 71], 41) := by decide +kernel
theorem dX0_mode_48 : decode cX0_mode 48 = .ok (.aload_n 3, 1) := by decide +kernel
theorem dX0_mode_49 : decode cX0_mode 49 = .ok (.getfield 92, 3) := by decide +kernel
theorem dX0_mode_52 : decode cX0_mode 52 = .ok (.ireturn, 1) := by decide +kernel
theorem dX0_mode_53 : decode cX0_mode 53 = .ok (.aload_n 3, 1) := by decide +kernel
theorem dX0_mode_54 : decode cX0_mode 54 = .ok (.getfield 96, 3) := by decide +kernel
theorem dX0_mode_57 : decode cX0_mode 57 = .ok (.ireturn, 1) := by decide +kernel
theorem dX0_mode_58 : decode cX0_mode 58 = .ok (.aload_n 3, 1) := by decide +kernel
theorem dX0_mode_59 : decode cX0_mode 59 = .ok (.getfield 99, 3) := by decide +kernel
theorem dX0_mode_62 : decode cX0_mode 62 = .ok (.ireturn, 1) := by decide +kernel
theorem dX0_mode_63 : decode cX0_mode 63 = .ok (.aload_n 3, 1) := by decide +kernel
theorem dX0_mode_64 : decode cX0_mode 64 = .ok (.getfield 102, 3) := by decide +kernel
theorem dX0_mode_67 : decode cX0_mode 67 = .ok (.ireturn, 1) := by decide +kernel
theorem dX0_mode_68 : decode cX0_mode 68 = .ok (.aload_n 3, 1) := by decide +kernel
theorem dX0_mode_69 : decode cX0_mode 69 = .ok (.getfield 105, 3) := by decide +kernel
theorem dX0_mode_72 : decode cX0_mode 72 = .ok (.ireturn, 1) := by decide +kernel
theorem dX0_mode_73 : decode cX0_mode 73 = .ok (.aload_n 3, 1) := by decide +kernel
theorem dX0_mode_74 : decode cX0_mode 74 = .ok (.getfield 108, 3) := by decide +kernel
theorem dX0_mode_77 : decode cX0_mode 77 = .ok (.ireturn, 1) := by decide +kernel
theorem dX0_mode_78 : decode cX0_mode 78 = .ok (.aload_n 3, 1) := by decide +kernel
theorem dX0_mode_79 : decode cX0_mode 79 = .ok (.getfield 111, 3) := by decide +kernel
theorem dX0_mode_82 : decode cX0_mode 82 = .ok (.ireturn, 1) := by decide +kernel
theorem dX0_mode_83 : decode cX0_mode 83 = .ok (.new 42, 3) := by decide +kernel
theorem dX0_mode_86 : decode cX0_mode 86 = .ok (.dup, 1) := by decide +kernel
theorem dX0_mode_87 : decode cX0_mode 87 = .ok (.invokespecial 44, 3) := by decide +kernel
theorem dX0_mode_90 : decode cX0_mode 90 = .ok (.athrow, 1) := by decide +kernel
theorem dX0_count_0 : decode cX0_count 0 = .ok (.iload_n 1, 1) := by decide +kernel
theorem dX0_count_1 : decode cX0_count 1 = .ok (.tableswitch 64 0 2 #[27, 43, 48], 27) := by decide +kernel
theorem dX0_count_28 : decode cX0_count 28 = .ok (.aload_n 0, 1) := by decide +kernel
theorem dX0_count_29 : decode cX0_count 29 = .ok (.getfield 14, 3) := by decide +kernel
theorem dX0_count_32 : decode cX0_count 32 = .ok (.getfield 114, 3) := by decide +kernel
theorem dX0_count_35 : decode cX0_count 35 = .ok (.aload_n 0, 1) := by decide +kernel
theorem dX0_count_36 : decode cX0_count 36 = .ok (.getfield 18, 3) := by decide +kernel
theorem dX0_count_39 : decode cX0_count 39 = .ok (.getfield 114, 3) := by decide +kernel
theorem dX0_count_42 : decode cX0_count 42 = .ok (.iadd, 1) := by decide +kernel
theorem dX0_count_43 : decode cX0_count 43 = .ok (.ireturn, 1) := by decide +kernel
theorem dX0_count_44 : decode cX0_count 44 = .ok (.aload_n 0, 1) := by decide +kernel
theorem dX0_count_45 : decode cX0_count 45 = .ok (.getfield 21, 3) := by decide +kernel
theorem dX0_count_48 : decode cX0_count 48 = .ok (.ireturn, 1) := by decide +kernel
theorem dX0_count_49 : decode cX0_count 49 = .ok (.aload_n 0, 1) := by decide +kernel
theorem dX0_count_50 : decode cX0_count 50 = .ok (.getfield 14, 3) := by decide +kernel
theorem dX0_count_53 : decode cX0_count 53 = .ok (.getfield 117, 3) := by decide +kernel
theorem dX0_count_56 : decode cX0_count 56 = .ok (.aload_n 0, 1) := by decide +kernel
theorem dX0_count_57 : decode cX0_count 57 = .ok (.getfield 18, 3) := by decide +kernel
theorem dX0_count_60 : decode cX0_count 60 = .ok (.getfield 117, 3) := by decide +kernel
theorem dX0_count_63 : decode cX0_count 63 = .ok (.iadd, 1) := by decide +kernel
theorem dX0_count_64 : decode cX0_count 64 = .ok (.ireturn, 1) := by decide +kernel
theorem dX0_count_65 : decode cX0_count 65 = .ok (.new 42, 3) := by decide +kernel
theorem dX0_count_68 : decode cX0_count 68 = .ok (.dup, 1) := by decide +kernel
theorem dX0_count_69 : decode cX0_count 69 = .ok (.invokespecial 44, 3) := by decide +kernel
theorem dX0_count_72 : decode cX0_count 72 = .ok (.athrow, 1) := by decide +kernel
theorem dX0_controllerNumbered_0 : decode cX0_controllerNumbered 0 = .ok (.iload_n 1, 1) := by decide +kernel
theorem dX0_controllerNumbered_1 : decode cX0_controllerNumbered 1 = .ok (.ifCond .eq 16, 3) := by decide +kernel
theorem dX0_controllerNumbered_4 : decode cX0_controllerNumbered 4 = .ok (.iload_n 1, 1) := by decide +kernel
theorem dX0_controllerNumbered_5 : decode cX0_controllerNumbered 5 = .ok (.iconst 1, 1) := by decide +kernel
theorem dX0_controllerNumbered_6 : decode cX0_controllerNumbered 6 = .ok (.if_icmp .eq 11, 3) := by decide +kernel
theorem dX0_controllerNumbered_9 : decode cX0_controllerNumbered 9 = .ok (.new 25, 3) := by decide +kernel
theorem dX0_controllerNumbered_12 : decode cX0_controllerNumbered 12 = .ok (.dup, 1) := by decide +kernel
theorem dX0_controllerNumbered_13 : decode cX0_controllerNumbered 13 = .ok (.invokespecial 27, 3) := by decide +kernel
theorem dX0_controllerNumbered_16 : decode cX0_controllerNumbered 16 = .ok (.athrow, 1) := by decide +kernel
theorem dX0_controllerNumbered_17 : decode cX0_controllerNumbered 17 = .ok (.iload_n 1, 1) := by decide +kernel
theorem dX0_controllerNumbered_18 : decode cX0_controllerNumbered 18 = .ok (.ifCond .ne 10, 3) := by decide +kernel
theorem dX0_controllerNumbered_21 : decode cX0_controllerNumbered 21 = .ok (.aload_n 0, 1) := by decide +kernel
theorem dX0_controllerNumbered_22 : decode cX0_controllerNumbered 22 = .ok (.getfield 14, 3) := by decide +kernel
theorem dX0_controllerNumbered_25 : decode cX0_controllerNumbered 25 = .ok (.goto 7, 3) := by decide +kernel
theorem dX0_controllerNumbered_28 : decode cX0_controllerNumbered 28 = .ok (.aload_n 0, 1) := by decide +kernel
theorem dX0_controllerNumbered_29 : decode cX0_controllerNumbered 29 = .ok (.getfield 18, 3) := by decide +kernel
theorem dX0_controllerNumbered_32 : decode cX0_controllerNumbered 32 = .ok (.areturn, 1) := by decide +kernel
theorem dX0_checkPort_0 : decode cX0_checkPort 0 = .ok (.iload_n 1, 1) := by decide +kernel
theorem dX0_checkPort_1 : decode cX0_checkPort 1 = .ok (.ifCond .eq 16, 3) := by decide +kernel
theorem dX0_checkPort_4 : decode cX0_checkPort 4 = .ok (.iload_n 1, 1) := by decide +kernel
theorem dX0_checkPort_5 : decode cX0_checkPort 5 = .ok (.iconst 1, 1) := by decide +kernel
theorem dX0_checkPort_6 : decode cX0_checkPort 6 = .ok (.if_icmp .eq 11, 3) := by decide +kernel
theorem dX0_checkPort_9 : decode cX0_checkPort 9 = .ok (.new 25, 3) := by decide +kernel
theorem dX0_checkPort_12 : decode cX0_checkPort 12 = .ok (.dup, 1) := by decide +kernel
theorem dX0_checkPort_13 : decode cX0_checkPort 13 = .ok (.invokespecial 27, 3) := by decide +kernel
theorem dX0_checkPort_16 : decode cX0_checkPort 16 = .ok (.athrow, 1) := by decide +kernel
theorem dX0_checkPort_17 : decode cX0_checkPort 17 = .ok (.return_, 1) := by decide +kernel
theorem dX0_takeFromHelper_0 : decode cX0_takeFromHelper 0 = .ok (.aload_n 0, 1) := by decide +kernel
theorem dX0_takeFromHelper_1 : decode cX0_takeFromHelper 1 = .ok (.getfield 18, 3) := by decide +kernel
theorem dX0_takeFromHelper_4 : decode cX0_takeFromHelper 4 = .ok (.invokevirtual 61, 3) := by decide +kernel
theorem dX0_takeFromHelper_7 : decode cX0_takeFromHelper 7 = .ok (.istore_n 1, 1) := by decide +kernel
theorem dX0_takeFromHelper_8 : decode cX0_takeFromHelper 8 = .ok (.aload_n 0, 1) := by decide +kernel
theorem dX0_takeFromHelper_9 : decode cX0_takeFromHelper 9 = .ok (.getfield 14, 3) := by decide +kernel
theorem dX0_takeFromHelper_12 : decode cX0_takeFromHelper 12 = .ok (.iconst 2, 1) := by decide +kernel
theorem dX0_takeFromHelper_13 : decode cX0_takeFromHelper 13 = .ok (.iconst 0, 1) := by decide +kernel
theorem dX0_takeFromHelper_14 : decode cX0_takeFromHelper 14 = .ok (.invokevirtual 28, 3) := by decide +kernel
theorem dX0_takeFromHelper_17 : decode cX0_takeFromHelper 17 = .ok (.pop, 1) := by decide +kernel
theorem dX0_takeFromHelper_18 : decode cX0_takeFromHelper 18 = .ok (.aload_n 0, 1) := by decide +kernel
theorem dX0_takeFromHelper_19 : decode cX0_takeFromHelper 19 = .ok (.invokevirtual 32, 3) := by decide +kernel
theorem dX0_takeFromHelper_22 : decode cX0_takeFromHelper 22 = .ok (.aload_n 0, 1) := by decide +kernel
theorem dX0_takeFromHelper_23 : decode cX0_takeFromHelper 23 = .ok (.getfield 18, 3) := by decide +kernel
theorem dX0_takeFromHelper_26 : decode cX0_takeFromHelper 26 = .ok (.iload_n 1, 1) := by decide +kernel
theorem dX0_takeFromHelper_27 : decode cX0_takeFromHelper 27 = .ok (.invokevirtual 67, 3) := by decide +kernel
theorem dX0_takeFromHelper_30 : decode cX0_takeFromHelper 30 = .ok (.ireturn, 1) := by decide +kernel
theorem dX0_followHelper_0 : decode cX0_followHelper 0 = .ok (.aload_n 0, 1) := by decide +kernel
theorem dX0_followHelper_1 : decode cX0_followHelper 1 = .ok (.getfield 14, 3) := by decide +kernel
theorem dX0_followHelper_4 : decode cX0_followHelper 4 = .ok (.iconst 2, 1) := by decide +kernel
theorem dX0_followHelper_5 : decode cX0_followHelper 5 = .ok (.aload_n 0, 1) := by decide +kernel
theorem dX0_followHelper_6 : decode cX0_followHelper 6 = .ok (.getfield 18, 3) := by decide +kernel
theorem dX0_followHelper_9 : decode cX0_followHelper 9 = .ok (.invokevirtual 51, 3) := by decide +kernel
theorem dX0_followHelper_12 : decode cX0_followHelper 12 = .ok (.iconst (-1), 1) := by decide +kernel
theorem dX0_followHelper_13 : decode cX0_followHelper 13 = .ok (.if_icmp .eq 7, 3) := by decide +kernel
theorem dX0_followHelper_16 : decode cX0_followHelper 16 = .ok (.iconst 1, 1) := by decide +kernel
theorem dX0_followHelper_17 : decode cX0_followHelper 17 = .ok (.goto 4, 3) := by decide +kernel
theorem dX0_followHelper_20 : decode cX0_followHelper 20 = .ok (.iconst 0, 1) := by decide +kernel
theorem dX0_followHelper_21 : decode cX0_followHelper 21 = .ok (.invokevirtual 28, 3) := by decide +kernel
theorem dX0_followHelper_24 : decode cX0_followHelper 24 = .ok (.pop, 1) := by decide +kernel
theorem dX0_followHelper_25 : decode cX0_followHelper 25 = .ok (.return_, 1) := by decide +kernel
theorem dX1_init_0 : decode cX1_init 0 = .ok (.aload_n 0, 1) := by decide +kernel
theorem dX1_init_1 : decode cX1_init 1 = .ok (.invokespecial 3, 3) := by decide +kernel
theorem dX1_init_4 : decode cX1_init 4 = .ok (.aload_n 0, 1) := by decide +kernel
theorem dX1_init_5 : decode cX1_init 5 = .ok (.iload_n 1, 1) := by decide +kernel
theorem dX1_init_6 : decode cX1_init 6 = .ok (.putfield 9, 3) := by decide +kernel
theorem dX1_init_9 : decode cX1_init 9 = .ok (.aload_n 0, 1) := by decide +kernel
theorem dX1_init_10 : decode cX1_init 10 = .ok (.bipush 7, 2) := by decide +kernel
theorem dX1_init_12 : decode cX1_init 12 = .ok (.putfield 15, 3) := by decide +kernel
theorem dX1_init_15 : decode cX1_init 15 = .ok (.return_, 1) := by decide +kernel
theorem dX1_moveLine_0 : decode cX1_moveLine 0 = .ok (.aload_n 0, 1) := by decide +kernel
theorem dX1_moveLine_1 : decode cX1_moveLine 1 = .ok (.getfield 18, 3) := by decide +kernel
theorem dX1_moveLine_4 : decode cX1_moveLine 4 = .ok (.iload_n 1, 1) := by decide +kernel
theorem dX1_moveLine_5 : decode cX1_moveLine 5 = .ok (.invokestatic 21, 3) := by decide +kernel
theorem dX1_moveLine_8 : decode cX1_moveLine 8 = .ok (.iload_n 2, 1) := by decide +kernel
theorem dX1_moveLine_9 : decode cX1_moveLine 9 = .ok (.if_icmp .ne 5, 3) := by decide +kernel
theorem dX1_moveLine_12 : decode cX1_moveLine 12 = .ok (.iconst 0, 1) := by decide +kernel
theorem dX1_moveLine_13 : decode cX1_moveLine 13 = .ok (.ireturn, 1) := by decide +kernel
theorem dX1_moveLine_14 : decode cX1_moveLine 14 = .ok (.aload_n 0, 1) := by decide +kernel
theorem dX1_moveLine_15 : decode cX1_moveLine 15 = .ok (.dup, 1) := by decide +kernel
theorem dX1_moveLine_16 : decode cX1_moveLine 16 = .ok (.getfield 18, 3) := by decide +kernel
theorem dX1_moveLine_19 : decode cX1_moveLine 19 = .ok (.iconst 1, 1) := by decide +kernel
theorem dX1_moveLine_20 : decode cX1_moveLine 20 = .ok (.iload_n 1, 1) := by decide +kernel
theorem dX1_moveLine_21 : decode cX1_moveLine 21 = .ok (.ishl, 1) := by decide +kernel
theorem dX1_moveLine_22 : decode cX1_moveLine 22 = .ok (.ixor, 1) := by decide +kernel
theorem dX1_moveLine_23 : decode cX1_moveLine 23 = .ok (.putfield 18, 3) := by decide +kernel
theorem dX1_moveLine_26 : decode cX1_moveLine 26 = .ok (.aload_n 0, 1) := by decide +kernel
theorem dX1_moveLine_27 : decode cX1_moveLine 27 = .ok (.iload_n 2, 1) := by decide +kernel
theorem dX1_moveLine_28 : decode cX1_moveLine 28 = .ok (.ifCond .eq 14, 3) := by decide +kernel
theorem dX1_moveLine_31 : decode cX1_moveLine 31 = .ok (.aload_n 0, 1) := by decide +kernel
theorem dX1_moveLine_32 : decode cX1_moveLine 32 = .ok (.getfield 25, 3) := by decide +kernel
theorem dX1_moveLine_35 : decode cX1_moveLine 35 = .ok (.iconst 1, 1) := by decide +kernel
theorem dX1_moveLine_36 : decode cX1_moveLine 36 = .ok (.iload_n 1, 1) := by decide +kernel
theorem dX1_moveLine_37 : decode cX1_moveLine 37 = .ok (.ishl, 1) := by decide +kernel
theorem dX1_moveLine_38 : decode cX1_moveLine 38 = .ok (.ior, 1) := by decide +kernel
theorem dX1_moveLine_39 : decode cX1_moveLine 39 = .ok (.goto 11, 3) := by decide +kernel
theorem dX1_moveLine_42 : decode cX1_moveLine 42 = .ok (.aload_n 0, 1) := by decide +kernel
theorem dX1_moveLine_43 : decode cX1_moveLine 43 = .ok (.getfield 25, 3) := by decide +kernel
theorem dX1_moveLine_46 : decode cX1_moveLine 46 = .ok (.iload_n 1, 1) := by decide +kernel
theorem dX1_moveLine_47 : decode cX1_moveLine 47 = .ok (.invokestatic 28, 3) := by decide +kernel
theorem dX1_moveLine_50 : decode cX1_moveLine 50 = .ok (.putfield 25, 3) := by decide +kernel
theorem dX1_moveLine_53 : decode cX1_moveLine 53 = .ok (.iconst 1, 1) := by decide +kernel
theorem dX1_moveLine_54 : decode cX1_moveLine 54 = .ok (.ireturn, 1) := by decide +kernel
theorem dX1_requested_0 : decode cX1_requested 0 = .ok (.aload_n 0, 1) := by decide +kernel
theorem dX1_requested_1 : decode cX1_requested 1 = .ok (.getfield 32, 3) := by decide +kernel
theorem dX1_requested_4 : decode cX1_requested 4 = .ok (.ifCond .eq 10, 3) := by decide +kernel
theorem dX1_requested_7 : decode cX1_requested 7 = .ok (.aload_n 0, 1) := by decide +kernel
theorem dX1_requested_8 : decode cX1_requested 8 = .ok (.getfield 18, 3) := by decide +kernel
theorem dX1_requested_11 : decode cX1_requested 11 = .ok (.goto 7, 3) := by decide +kernel
theorem dX1_requested_14 : decode cX1_requested 14 = .ok (.aload_n 0, 1) := by decide +kernel
theorem dX1_requested_15 : decode cX1_requested 15 = .ok (.getfield 25, 3) := by decide +kernel
theorem dX1_requested_18 : decode cX1_requested 18 = .ok (.ireturn, 1) := by decide +kernel
theorem dX1_lineToDeliver_0 : decode cX1_lineToDeliver 0 = .ok (.aload_n 0, 1) := by decide +kernel
theorem dX1_lineToDeliver_1 : decode cX1_lineToDeliver 1 = .ok (.getfield 36, 3) := by decide +kernel
theorem dX1_lineToDeliver_4 : decode cX1_lineToDeliver 4 = .ok (.ifCond .ne 5, 3) := by decide +kernel
theorem dX1_lineToDeliver_7 : decode cX1_lineToDeliver 7 = .ok (.iconst (-1), 1) := by decide +kernel
theorem dX1_lineToDeliver_8 : decode cX1_lineToDeliver 8 = .ok (.ireturn, 1) := by decide +kernel
theorem dX1_lineToDeliver_9 : decode cX1_lineToDeliver 9 = .ok (.aload_n 0, 1) := by decide +kernel
theorem dX1_lineToDeliver_10 : decode cX1_lineToDeliver 10 = .ok (.aload_n 0, 1) := by decide +kernel
theorem dX1_lineToDeliver_11 : decode cX1_lineToDeliver 11 = .ok (.invokevirtual 39, 3) := by decide +kernel
theorem dX1_lineToDeliver_14 : decode cX1_lineToDeliver 14 = .ok (.aload_n 0, 1) := by decide +kernel
theorem dX1_lineToDeliver_15 : decode cX1_lineToDeliver 15 = .ok (.getfield 43, 3) := by decide +kernel
theorem dX1_lineToDeliver_18 : decode cX1_lineToDeliver 18 = .ok (.iconst (-1), 1) := by decide +kernel
theorem dX1_lineToDeliver_19 : decode cX1_lineToDeliver 19 = .ok (.ixor, 1) := by decide +kernel
theorem dX1_lineToDeliver_20 : decode cX1_lineToDeliver 20 = .ok (.iand, 1) := by decide +kernel
theorem dX1_lineToDeliver_21 : decode cX1_lineToDeliver 21 = .ok (.invokevirtual 46, 3) := by decide +kernel
theorem dX1_lineToDeliver_24 : decode cX1_lineToDeliver 24 = .ok (.istore_n 1, 1) := by decide +kernel
theorem dX1_lineToDeliver_25 : decode cX1_lineToDeliver 25 = .ok (.iload_n 1, 1) := by decide +kernel
theorem dX1_lineToDeliver_26 : decode cX1_lineToDeliver 26 = .ok (.iconst (-1), 1) := by decide +kernel
theorem dX1_lineToDeliver_27 : decode cX1_lineToDeliver 27 = .ok (.if_icmp .ne 5, 3) := by decide +kernel
theorem dX1_lineToDeliver_30 : decode cX1_lineToDeliver 30 = .ok (.iconst (-1), 1) := by decide +kernel
theorem dX1_lineToDeliver_31 : decode cX1_lineToDeliver 31 = .ok (.ireturn, 1) := by decide +kernel
theorem dX1_lineToDeliver_32 : decode cX1_lineToDeliver 32 = .ok (.aload_n 0, 1) := by decide +kernel
theorem dX1_lineToDeliver_33 : decode cX1_lineToDeliver 33 = .ok (.aload_n 0, 1) := by decide +kernel
theorem dX1_lineToDeliver_34 : decode cX1_lineToDeliver 34 = .ok (.iload_n 1, 1) := by decide +kernel
theorem dX1_lineToDeliver_35 : decode cX1_lineToDeliver 35 = .ok (.invokevirtual 50, 3) := by decide +kernel
theorem dX1_lineToDeliver_38 : decode cX1_lineToDeliver 38 = .ok (.invokevirtual 46, 3) := by decide +kernel
theorem dX1_lineToDeliver_41 : decode cX1_lineToDeliver 41 = .ok (.istore_n 2, 1) := by decide +kernel
theorem dX1_lineToDeliver_42 : decode cX1_lineToDeliver 42 = .ok (.iload_n 2, 1) := by decide +kernel
theorem dX1_lineToDeliver_43 : decode cX1_lineToDeliver 43 = .ok (.iconst (-1), 1) := by decide +kernel
theorem dX1_lineToDeliver_44 : decode cX1_lineToDeliver 44 = .ok (.if_icmp .eq 16, 3) := by decide +kernel
theorem dX1_lineToDeliver_47 : decode cX1_lineToDeliver 47 = .ok (.aload_n 0, 1) := by decide +kernel
theorem dX1_lineToDeliver_48 : decode cX1_lineToDeliver 48 = .ok (.iload_n 1, 1) := by decide +kernel
theorem dX1_lineToDeliver_49 : decode cX1_lineToDeliver 49 = .ok (.invokevirtual 53, 3) := by decide +kernel
theorem dX1_lineToDeliver_52 : decode cX1_lineToDeliver 52 = .ok (.aload_n 0, 1) := by decide +kernel
theorem dX1_lineToDeliver_53 : decode cX1_lineToDeliver 53 = .ok (.iload_n 2, 1) := by decide +kernel
theorem dX1_lineToDeliver_54 : decode cX1_lineToDeliver 54 = .ok (.invokevirtual 53, 3) := by decide +kernel
theorem dX1_lineToDeliver_57 : decode cX1_lineToDeliver 57 = .ok (.if_icmp .ge 7, 3) := by decide +kernel
theorem dX1_lineToDeliver_60 : decode cX1_lineToDeliver 60 = .ok (.iload_n 1, 1) := by decide +kernel
theorem dX1_lineToDeliver_61 : decode cX1_lineToDeliver 61 = .ok (.goto 4, 3) := by decide +kernel
theorem dX1_lineToDeliver_64 : decode cX1_lineToDeliver 64 = .ok (.iconst (-1), 1) := by decide +kernel
theorem dX1_lineToDeliver_65 : decode cX1_lineToDeliver 65 = .ok (.ireturn, 1) := by decide +kernel
theorem dX1_blockersOf_0 : decode cX1_blockersOf 0 = .ok (.aload_n 0, 1) := by decide +kernel
theorem dX1_blockersOf_1 : decode cX1_blockersOf 1 = .ok (.invokevirtual 56, 3) := by decide +kernel
theorem dX1_blockersOf_4 : decode cX1_blockersOf 4 = .ok (.istore_n 2, 1) := by decide +kernel
theorem dX1_blockersOf_5 : decode cX1_blockersOf 5 = .ok (.aload_n 0, 1) := by decide +kernel
theorem dX1_blockersOf_6 : decode cX1_blockersOf 6 = .ok (.getfield 59, 3) := by decide +kernel
theorem dX1_blockersOf_9 : decode cX1_blockersOf 9 = .ok (.ifCond .eq 19, 3) := by decide +kernel
theorem dX1_blockersOf_12 : decode cX1_blockersOf 12 = .ok (.iload_n 1, 1) := by decide +kernel
theorem dX1_blockersOf_13 : decode cX1_blockersOf 13 = .ok (.aload_n 0, 1) := by decide +kernel
theorem dX1_blockersOf_14 : decode cX1_blockersOf 14 = .ok (.getfield 9, 3) := by decide +kernel
theorem dX1_blockersOf_17 : decode cX1_blockersOf 17 = .ok (.if_icmp .ne 11, 3) := by decide +kernel
theorem dX1_blockersOf_20 : decode cX1_blockersOf 20 = .ok (.iload_n 2, 1) := by decide +kernel
theorem dX1_blockersOf_21 : decode cX1_blockersOf 21 = .ok (.iload_n 1, 1) := by decide +kernel
theorem dX1_blockersOf_22 : decode cX1_blockersOf 22 = .ok (.invokestatic 28, 3) := by decide +kernel
theorem dX1_blockersOf_25 : decode cX1_blockersOf 25 = .ok (.goto 4, 3) := by decide +kernel
theorem dX1_blockersOf_28 : decode cX1_blockersOf 28 = .ok (.iload_n 2, 1) := by decide +kernel
theorem dX1_blockersOf_29 : decode cX1_blockersOf 29 = .ok (.ireturn, 1) := by decide +kernel
theorem dX1_inServiceThatCounts_0 : decode cX1_inServiceThatCounts 0 = .ok (.aload_n 0, 1) := by decide +kernel
theorem dX1_inServiceThatCounts_1 : decode cX1_inServiceThatCounts 1 = .ok (.getfield 62, 3) := by decide +kernel
theorem dX1_inServiceThatCounts_4 : decode cX1_inServiceThatCounts 4 = .ok (.ifCond .eq 17, 3) := by decide +kernel
theorem dX1_inServiceThatCounts_7 : decode cX1_inServiceThatCounts 7 = .ok (.aload_n 0, 1) := by decide +kernel
theorem dX1_inServiceThatCounts_8 : decode cX1_inServiceThatCounts 8 = .ok (.getfield 65, 3) := by decide +kernel
theorem dX1_inServiceThatCounts_11 : decode cX1_inServiceThatCounts 11 = .ok (.aload_n 0, 1) := by decide +kernel
theorem dX1_inServiceThatCounts_12 : decode cX1_inServiceThatCounts 12 = .ok (.getfield 43, 3) := by decide +kernel
theorem dX1_inServiceThatCounts_15 : decode cX1_inServiceThatCounts 15 = .ok (.iconst (-1), 1) := by decide +kernel
theorem dX1_inServiceThatCounts_16 : decode cX1_inServiceThatCounts 16 = .ok (.ixor, 1) := by decide +kernel
theorem dX1_inServiceThatCounts_17 : decode cX1_inServiceThatCounts 17 = .ok (.iand, 1) := by decide +kernel
theorem dX1_inServiceThatCounts_18 : decode cX1_inServiceThatCounts 18 = .ok (.goto 7, 3) := by decide +kernel
theorem dX1_inServiceThatCounts_21 : decode cX1_inServiceThatCounts 21 = .ok (.aload_n 0, 1) := by decide +kernel
theorem dX1_inServiceThatCounts_22 : decode cX1_inServiceThatCounts 22 = .ok (.getfield 65, 3) := by decide +kernel
theorem dX1_inServiceThatCounts_25 : decode cX1_inServiceThatCounts 25 = .ok (.ireturn, 1) := by decide +kernel
theorem dX1_takeDelivered_0 : decode cX1_takeDelivered 0 = .ok (.aload_n 0, 1) := by decide +kernel
theorem dX1_takeDelivered_1 : decode cX1_takeDelivered 1 = .ok (.invokevirtual 68, 3) := by decide +kernel
theorem dX1_takeDelivered_4 : decode cX1_takeDelivered 4 = .ok (.istore_n 1, 1) := by decide +kernel
theorem dX1_takeDelivered_5 : decode cX1_takeDelivered 5 = .ok (.iload_n 1, 1) := by decide +kernel
theorem dX1_takeDelivered_6 : decode cX1_takeDelivered 6 = .ok (.iconst (-1), 1) := by decide +kernel
theorem dX1_takeDelivered_7 : decode cX1_takeDelivered 7 = .ok (.if_icmp .ne 5, 3) := by decide +kernel
theorem dX1_takeDelivered_10 : decode cX1_takeDelivered 10 = .ok (.iconst (-1), 1) := by decide +kernel
theorem dX1_takeDelivered_11 : decode cX1_takeDelivered 11 = .ok (.ireturn, 1) := by decide +kernel
theorem dX1_takeDelivered_12 : decode cX1_takeDelivered 12 = .ok (.aload_n 0, 1) := by decide +kernel
theorem dX1_takeDelivered_13 : decode cX1_takeDelivered 13 = .ok (.aload_n 0, 1) := by decide +kernel
theorem dX1_takeDelivered_14 : decode cX1_takeDelivered 14 = .ok (.getfield 25, 3) := by decide +kernel
theorem dX1_takeDelivered_17 : decode cX1_takeDelivered 17 = .ok (.iload_n 1, 1) := by decide +kernel
theorem dX1_takeDelivered_18 : decode cX1_takeDelivered 18 = .ok (.invokestatic 28, 3) := by decide +kernel
theorem dX1_takeDelivered_21 : decode cX1_takeDelivered 21 = .ok (.putfield 25, 3) := by decide +kernel
theorem dX1_takeDelivered_24 : decode cX1_takeDelivered 24 = .ok (.aload_n 0, 1) := by decide +kernel
theorem dX1_takeDelivered_25 : decode cX1_takeDelivered 25 = .ok (.getfield 71, 3) := by decide +kernel
theorem dX1_takeDelivered_28 : decode cX1_takeDelivered 28 = .ok (.ifCond .ne 18, 3) := by decide +kernel
theorem dX1_takeDelivered_31 : decode cX1_takeDelivered 31 = .ok (.aload_n 0, 1) := by decide +kernel
theorem dX1_takeDelivered_32 : decode cX1_takeDelivered 32 = .ok (.dup, 1) := by decide +kernel
theorem dX1_takeDelivered_33 : decode cX1_takeDelivered 33 = .ok (.getfield 65, 3) := by decide +kernel
theorem dX1_takeDelivered_36 : decode cX1_takeDelivered 36 = .ok (.iconst 1, 1) := by decide +kernel
theorem dX1_takeDelivered_37 : decode cX1_takeDelivered 37 = .ok (.iload_n 1, 1) := by decide +kernel
theorem dX1_takeDelivered_38 : decode cX1_takeDelivered 38 = .ok (.ishl, 1) := by decide +kernel
theorem dX1_takeDelivered_39 : decode cX1_takeDelivered 39 = .ok (.ior, 1) := by decide +kernel
theorem dX1_takeDelivered_40 : decode cX1_takeDelivered 40 = .ok (.putfield 65, 3) := by decide +kernel
theorem dX1_takeDelivered_43 : decode cX1_takeDelivered 43 = .ok (.goto 15, 3) := by decide +kernel
theorem dX1_takeDelivered_46 : decode cX1_takeDelivered 46 = .ok (.aload_n 0, 1) := by decide +kernel
theorem dX1_takeDelivered_47 : decode cX1_takeDelivered 47 = .ok (.getfield 74, 3) := by decide +kernel
theorem dX1_takeDelivered_50 : decode cX1_takeDelivered 50 = .ok (.ifCond .eq 8, 3) := by decide +kernel
theorem dX1_takeDelivered_53 : decode cX1_takeDelivered 53 = .ok (.aload_n 0, 1) := by decide +kernel
theorem dX1_takeDelivered_54 : decode cX1_takeDelivered 54 = .ok (.iload_n 1, 1) := by decide +kernel
theorem dX1_takeDelivered_55 : decode cX1_takeDelivered 55 = .ok (.putfield 15, 3) := by decide +kernel
theorem dX1_takeDelivered_58 : decode cX1_takeDelivered 58 = .ok (.aload_n 0, 1) := by decide +kernel
theorem dX1_takeDelivered_59 : decode cX1_takeDelivered 59 = .ok (.dup, 1) := by decide +kernel
theorem dX1_takeDelivered_60 : decode cX1_takeDelivered 60 = .ok (.getfield 77, 3) := by decide +kernel
theorem dX1_takeDelivered_63 : decode cX1_takeDelivered 63 = .ok (.iconst 1, 1) := by decide +kernel
theorem dX1_takeDelivered_64 : decode cX1_takeDelivered 64 = .ok (.iadd, 1) := by decide +kernel
theorem dX1_takeDelivered_65 : decode cX1_takeDelivered 65 = .ok (.putfield 77, 3) := by decide +kernel
theorem dX1_takeDelivered_68 : decode cX1_takeDelivered 68 = .ok (.iload_n 1, 1) := by decide +kernel
theorem dX1_takeDelivered_69 : decode cX1_takeDelivered 69 = .ok (.ireturn, 1) := by decide +kernel
theorem dX1_numberOf_0 : decode cX1_numberOf 0 = .ok (.aload_n 0, 1) := by decide +kernel
theorem dX1_numberOf_1 : decode cX1_numberOf 1 = .ok (.getfield 80, 3) := by decide +kernel
theorem dX1_numberOf_4 : decode cX1_numberOf 4 = .ok (.iload_n 1, 1) := by decide +kernel
theorem dX1_numberOf_5 : decode cX1_numberOf 5 = .ok (.iconst (-1), 1) := by decide +kernel
theorem dX1_numberOf_6 : decode cX1_numberOf 6 = .ok (.if_icmp .ne 8, 3) := by decide +kernel
theorem dX1_numberOf_9 : decode cX1_numberOf 9 = .ok (.bipush 7, 2) := by decide +kernel
theorem dX1_numberOf_11 : decode cX1_numberOf 11 = .ok (.goto 4, 3) := by decide +kernel
theorem dX1_numberOf_14 : decode cX1_numberOf 14 = .ok (.iload_n 1, 1) := by decide +kernel
theorem dX1_numberOf_15 : decode cX1_numberOf 15 = .ok (.iadd, 1) := by decide +kernel
theorem dX1_numberOf_16 : decode cX1_numberOf 16 = .ok (.ireturn, 1) := by decide +kernel
theorem dX1_answerAtPort0_0 : decode cX1_answerAtPort0 0 = .ok (.aload_n 0, 1) := by decide +kernel
theorem dX1_answerAtPort0_1 : decode cX1_answerAtPort0 1 = .ok (.getfield 83, 3) := by decide +kernel
theorem dX1_answerAtPort0_4 : decode cX1_answerAtPort0 4 = .ok (.ifCond .eq 28, 3) := by decide +kernel
theorem dX1_answerAtPort0_7 : decode cX1_answerAtPort0 7 = .ok (.aload_n 0, 1) := by decide +kernel
theorem dX1_answerAtPort0_8 : decode cX1_answerAtPort0 8 = .ok (.iconst 0, 1) := by decide +kernel
theorem dX1_answerAtPort0_9 : decode cX1_answerAtPort0 9 = .ok (.putfield 83, 3) := by decide +kernel
theorem dX1_answerAtPort0_12 : decode cX1_answerAtPort0 12 = .ok (.aload_n 0, 1) := by decide +kernel
theorem dX1_answerAtPort0_13 : decode cX1_answerAtPort0 13 = .ok (.invokevirtual 86, 3) := by decide +kernel
theorem dX1_answerAtPort0_16 : decode cX1_answerAtPort0 16 = .ok (.istore_n 1, 1) := by decide +kernel
theorem dX1_answerAtPort0_17 : decode cX1_answerAtPort0 17 = .ok (.iload_n 1, 1) := by decide +kernel
theorem dX1_answerAtPort0_18 : decode cX1_answerAtPort0 18 = .ok (.iconst (-1), 1) := by decide +kernel
theorem dX1_answerAtPort0_19 : decode cX1_answerAtPort0 19 = .ok (.if_icmp .ne 7, 3) := by decide +kernel
theorem dX1_answerAtPort0_22 : decode cX1_answerAtPort0 22 = .ok (.iconst 0, 1) := by decide +kernel
theorem dX1_answerAtPort0_23 : decode cX1_answerAtPort0 23 = .ok (.goto 8, 3) := by decide +kernel
theorem dX1_answerAtPort0_26 : decode cX1_answerAtPort0 26 = .ok (.sipush 128, 3) := by decide +kernel
theorem dX1_answerAtPort0_29 : decode cX1_answerAtPort0 29 = .ok (.iload_n 1, 1) := by decide +kernel
theorem dX1_answerAtPort0_30 : decode cX1_answerAtPort0 30 = .ok (.iadd, 1) := by decide +kernel
theorem dX1_answerAtPort0_31 : decode cX1_answerAtPort0 31 = .ok (.ireturn, 1) := by decide +kernel
theorem dX1_answerAtPort0_32 : decode cX1_answerAtPort0 32 = .ok (.aload_n 0, 1) := by decide +kernel
theorem dX1_answerAtPort0_33 : decode cX1_answerAtPort0 33 = .ok (.getfield 89, 3) := by decide +kernel
theorem dX1_answerAtPort0_36 : decode cX1_answerAtPort0 36 = .ok (.ifCond .ne 10, 3) := by decide +kernel
theorem dX1_answerAtPort0_39 : decode cX1_answerAtPort0 39 = .ok (.aload_n 0, 1) := by decide +kernel
theorem dX1_answerAtPort0_40 : decode cX1_answerAtPort0 40 = .ok (.invokevirtual 39, 3) := by decide +kernel
theorem dX1_answerAtPort0_43 : decode cX1_answerAtPort0 43 = .ok (.goto 7, 3) := by decide +kernel
theorem dX1_answerAtPort0_46 : decode cX1_answerAtPort0 46 = .ok (.aload_n 0, 1) := by decide +kernel
theorem dX1_answerAtPort0_47 : decode cX1_answerAtPort0 47 = .ok (.getfield 65, 3) := by decide +kernel
theorem dX1_answerAtPort0_50 : decode cX1_answerAtPort0 50 = .ok (.ireturn, 1) := by decide +kernel
theorem dX1_acceptAtPort0_0 : decode cX1_acceptAtPort0 0 = .ok (.iload_n 1, 1) := by decide +kernel
theorem dX1_acceptAtPort0_1 : decode cX1_acceptAtPort0 1 = .ok (.iconst 4, 1) := by decide +kernel
theorem dX1_acceptAtPort0_2 : decode cX1_acceptAtPort0 2 = .ok (.invokestatic 21, 3) := by decide +kernel
theorem dX1_acceptAtPort0_5 : decode cX1_acceptAtPort0 5 = .ok (.ifCond .eq 11, 3) := by decide +kernel
theorem dX1_acceptAtPort0_8 : decode cX1_acceptAtPort0 8 = .ok (.aload_n 0, 1) := by decide +kernel
theorem dX1_acceptAtPort0_9 : decode cX1_acceptAtPort0 9 = .ok (.iload_n 1, 1) := by decide +kernel
theorem dX1_acceptAtPort0_10 : decode cX1_acceptAtPort0 10 = .ok (.invokevirtual 92, 3) := by decide +kernel
theorem dX1_acceptAtPort0_13 : decode cX1_acceptAtPort0 13 = .ok (.goto 30, 3) := by decide +kernel
theorem dX1_acceptAtPort0_16 : decode cX1_acceptAtPort0 16 = .ok (.iload_n 1, 1) := by decide +kernel
theorem dX1_acceptAtPort0_17 : decode cX1_acceptAtPort0 17 = .ok (.iconst 3, 1) := by decide +kernel
theorem dX1_acceptAtPort0_18 : decode cX1_acceptAtPort0 18 = .ok (.invokestatic 21, 3) := by decide +kernel
theorem dX1_acceptAtPort0_21 : decode cX1_acceptAtPort0 21 = .ok (.ifCond .eq 11, 3) := by decide +kernel
theorem dX1_acceptAtPort0_24 : decode cX1_acceptAtPort0 24 = .ok (.aload_n 0, 1) := by decide +kernel
theorem dX1_acceptAtPort0_25 : decode cX1_acceptAtPort0 25 = .ok (.iload_n 1, 1) := by decide +kernel
theorem dX1_acceptAtPort0_26 : decode cX1_acceptAtPort0 26 = .ok (.invokevirtual 96, 3) := by decide +kernel
theorem dX1_acceptAtPort0_29 : decode cX1_acceptAtPort0 29 = .ok (.goto 14, 3) := by decide +kernel
theorem dX1_acceptAtPort0_32 : decode cX1_acceptAtPort0 32 = .ok (.aload_n 0, 1) := by decide +kernel
theorem dX1_acceptAtPort0_33 : decode cX1_acceptAtPort0 33 = .ok (.iload_n 1, 1) := by decide +kernel
theorem dX1_acceptAtPort0_34 : decode cX1_acceptAtPort0 34 = .ok (.iconst 5, 1) := by decide +kernel
theorem dX1_acceptAtPort0_35 : decode cX1_acceptAtPort0 35 = .ok (.ishr, 1) := by decide +kernel
theorem dX1_acceptAtPort0_36 : decode cX1_acceptAtPort0 36 = .ok (.iload_n 1, 1) := by decide +kernel
theorem dX1_acceptAtPort0_37 : decode cX1_acceptAtPort0 37 = .ok (.bipush 7, 2) := by decide +kernel
theorem dX1_acceptAtPort0_39 : decode cX1_acceptAtPort0 39 = .ok (.iand, 1) := by decide +kernel
theorem dX1_acceptAtPort0_40 : decode cX1_acceptAtPort0 40 = .ok (.invokevirtual 99, 3) := by decide +kernel
theorem dX1_acceptAtPort0_43 : decode cX1_acceptAtPort0 43 = .ok (.return_, 1) := by decide +kernel
theorem dX1_acceptAtPort1_0 : decode cX1_acceptAtPort1 0 = .ok (.aload_n 0, 1) := by decide +kernel
theorem dX1_acceptAtPort1_1 : decode cX1_acceptAtPort1 1 = .ok (.getfield 103, 3) := by decide +kernel
theorem dX1_acceptAtPort1_4 : decode cX1_acceptAtPort1 4 = .ok (.tableswitch 111 2 4 #[28, 45, 80], 28) := by decide +kernel
theorem dX1_acceptAtPort1_32 : decode cX1_acceptAtPort1 32 = .ok (.aload_n 0, 1) := by decide +kernel
theorem dX1_acceptAtPort1_33 : decode cX1_acceptAtPort1 33 = .ok (.iload_n 1, 1) := by decide +kernel
theorem dX1_acceptAtPort1_34 : decode cX1_acceptAtPort1 34 = .ok (.sipush 248, 3) := by decide +kernel
theorem dX1_acceptAtPort1_37 : decode cX1_acceptAtPort1 37 = .ok (.iand, 1) := by decide +kernel
theorem dX1_acceptAtPort1_38 : decode cX1_acceptAtPort1 38 = .ok (.putfield 80, 3) := by decide +kernel
theorem dX1_acceptAtPort1_41 : decode cX1_acceptAtPort1 41 = .ok (.aload_n 0, 1) := by decide +kernel
theorem dX1_acceptAtPort1_42 : decode cX1_acceptAtPort1 42 = .ok (.iconst 3, 1) := by decide +kernel
theorem dX1_acceptAtPort1_43 : decode cX1_acceptAtPort1 43 = .ok (.putfield 103, 3) := by decide +kernel
theorem dX1_acceptAtPort1_46 : decode cX1_acceptAtPort1 46 = .ok (.goto 74, 3) := by decide +kernel
theorem dX1_acceptAtPort1_49 : decode cX1_acceptAtPort1 49 = .ok (.aload_n 0, 1) := by decide +kernel
theorem dX1_acceptAtPort1_50 : decode cX1_acceptAtPort1 50 = .ok (.aload_n 0, 1) := by decide +kernel
theorem dX1_acceptAtPort1_51 : decode cX1_acceptAtPort1 51 = .ok (.getfield 106, 3) := by decide +kernel
theorem dX1_acceptAtPort1_54 : decode cX1_acceptAtPort1 54 = .ok (.ifCond .eq 7, 3) := by decide +kernel
theorem dX1_acceptAtPort1_57 : decode cX1_acceptAtPort1 57 = .ok (.iconst 4, 1) := by decide +kernel
theorem dX1_acceptAtPort1_58 : decode cX1_acceptAtPort1 58 = .ok (.goto 4, 3) := by decide +kernel
theorem dX1_acceptAtPort1_61 : decode cX1_acceptAtPort1 61 = .ok (.iconst 0, 1) := by decide +kernel
theorem dX1_acceptAtPort1_62 : decode cX1_acceptAtPort1 62 = .ok (.putfield 103, 3) := by decide +kernel
theorem dX1_acceptAtPort1_65 : decode cX1_acceptAtPort1 65 = .ok (.aload_n 0, 1) := by decide +kernel
theorem dX1_acceptAtPort1_66 : decode cX1_acceptAtPort1 66 = .ok (.aload_n 0, 1) := by decide +kernel
theorem dX1_acceptAtPort1_67 : decode cX1_acceptAtPort1 67 = .ok (.getfield 106, 3) := by decide +kernel
theorem dX1_acceptAtPort1_70 : decode cX1_acceptAtPort1 70 = .ok (.ifCond .ne 7, 3) := by decide +kernel
theorem dX1_acceptAtPort1_73 : decode cX1_acceptAtPort1 73 = .ok (.iconst 1, 1) := by decide +kernel
theorem dX1_acceptAtPort1_74 : decode cX1_acceptAtPort1 74 = .ok (.goto 4, 3) := by decide +kernel
theorem dX1_acceptAtPort1_77 : decode cX1_acceptAtPort1 77 = .ok (.iconst 0, 1) := by decide +kernel
theorem dX1_acceptAtPort1_78 : decode cX1_acceptAtPort1 78 = .ok (.putfield 36, 3) := by decide +kernel
theorem dX1_acceptAtPort1_81 : decode cX1_acceptAtPort1 81 = .ok (.goto 39, 3) := by decide +kernel
theorem dX1_acceptAtPort1_84 : decode cX1_acceptAtPort1 84 = .ok (.aload_n 0, 1) := by decide +kernel
theorem dX1_acceptAtPort1_85 : decode cX1_acceptAtPort1 85 = .ok (.iload_n 1, 1) := by decide +kernel
theorem dX1_acceptAtPort1_86 : decode cX1_acceptAtPort1 86 = .ok (.iconst 1, 1) := by decide +kernel
theorem dX1_acceptAtPort1_87 : decode cX1_acceptAtPort1 87 = .ok (.invokestatic 21, 3) := by decide +kernel
theorem dX1_acceptAtPort1_90 : decode cX1_acceptAtPort1 90 = .ok (.putfield 71, 3) := by decide +kernel
theorem dX1_acceptAtPort1_93 : decode cX1_acceptAtPort1 93 = .ok (.aload_n 0, 1) := by decide +kernel
theorem dX1_acceptAtPort1_94 : decode cX1_acceptAtPort1 94 = .ok (.iload_n 1, 1) := by decide +kernel
theorem dX1_acceptAtPort1_95 : decode cX1_acceptAtPort1 95 = .ok (.iconst 4, 1) := by decide +kernel
theorem dX1_acceptAtPort1_96 : decode cX1_acceptAtPort1 96 = .ok (.invokestatic 21, 3) := by decide +kernel
theorem dX1_acceptAtPort1_99 : decode cX1_acceptAtPort1 99 = .ok (.putfield 59, 3) := by decide +kernel
theorem dX1_acceptAtPort1_102 : decode cX1_acceptAtPort1 102 = .ok (.aload_n 0, 1) := by decide +kernel
theorem dX1_acceptAtPort1_103 : decode cX1_acceptAtPort1 103 = .ok (.iconst 0, 1) := by decide +kernel
theorem dX1_acceptAtPort1_104 : decode cX1_acceptAtPort1 104 = .ok (.putfield 103, 3) := by decide +kernel
theorem dX1_acceptAtPort1_107 : decode cX1_acceptAtPort1 107 = .ok (.aload_n 0, 1) := by decide +kernel
theorem dX1_acceptAtPort1_108 : decode cX1_acceptAtPort1 108 = .ok (.iconst 1, 1) := by decide +kernel
theorem dX1_acceptAtPort1_109 : decode cX1_acceptAtPort1 109 = .ok (.putfield 36, 3) := by decide +kernel
theorem dX1_acceptAtPort1_112 : decode cX1_acceptAtPort1 112 = .ok (.goto 8, 3) := by decide +kernel
theorem dX1_acceptAtPort1_115 : decode cX1_acceptAtPort1 115 = .ok (.aload_n 0, 1) := by decide +kernel
theorem dX1_acceptAtPort1_116 : decode cX1_acceptAtPort1 116 = .ok (.iload_n 1, 1) := by decide +kernel
theorem dX1_acceptAtPort1_117 : decode cX1_acceptAtPort1 117 = .ok (.putfield 43, 3) := by decide +kernel
theorem dX1_acceptAtPort1_120 : decode cX1_acceptAtPort1 120 = .ok (.return_, 1) := by decide +kernel
theorem dX1_begin_0 : decode cX1_begin 0 = .ok (.aload_n 0, 1) := by decide +kernel
theorem dX1_begin_1 : decode cX1_begin 1 = .ok (.iconst 0, 1) := by decide +kernel
theorem dX1_begin_2 : decode cX1_begin 2 = .ok (.putfield 43, 3) := by decide +kernel
theorem dX1_begin_5 : decode cX1_begin 5 = .ok (.aload_n 0, 1) := by decide +kernel
theorem dX1_begin_6 : decode cX1_begin 6 = .ok (.iconst 0, 1) := by decide +kernel
theorem dX1_begin_7 : decode cX1_begin 7 = .ok (.putfield 65, 3) := by decide +kernel
theorem dX1_begin_10 : decode cX1_begin 10 = .ok (.aload_n 0, 1) := by decide +kernel
theorem dX1_begin_11 : decode cX1_begin 11 = .ok (.iconst 0, 1) := by decide +kernel
theorem dX1_begin_12 : decode cX1_begin 12 = .ok (.putfield 25, 3) := by decide +kernel
theorem dX1_begin_15 : decode cX1_begin 15 = .ok (.aload_n 0, 1) := by decide +kernel
theorem dX1_begin_16 : decode cX1_begin 16 = .ok (.bipush 7, 2) := by decide +kernel
theorem dX1_begin_18 : decode cX1_begin 18 = .ok (.putfield 15, 3) := by decide +kernel
theorem dX1_begin_21 : decode cX1_begin 21 = .ok (.aload_n 0, 1) := by decide +kernel
theorem dX1_begin_22 : decode cX1_begin 22 = .ok (.iload_n 1, 1) := by decide +kernel
theorem dX1_begin_23 : decode cX1_begin 23 = .ok (.iconst 3, 1) := by decide +kernel
theorem dX1_begin_24 : decode cX1_begin 24 = .ok (.invokestatic 21, 3) := by decide +kernel
theorem dX1_begin_27 : decode cX1_begin 27 = .ok (.putfield 32, 3) := by decide +kernel
theorem dX1_begin_30 : decode cX1_begin 30 = .ok (.aload_n 0, 1) := by decide +kernel
theorem dX1_begin_31 : decode cX1_begin 31 = .ok (.iconst 0, 1) := by decide +kernel
theorem dX1_begin_32 : decode cX1_begin 32 = .ok (.putfield 62, 3) := by decide +kernel
theorem dX1_begin_35 : decode cX1_begin 35 = .ok (.aload_n 0, 1) := by decide +kernel
theorem dX1_begin_36 : decode cX1_begin 36 = .ok (.iconst 0, 1) := by decide +kernel
theorem dX1_begin_37 : decode cX1_begin 37 = .ok (.putfield 59, 3) := by decide +kernel
theorem dX1_begin_40 : decode cX1_begin 40 = .ok (.aload_n 0, 1) := by decide +kernel
theorem dX1_begin_41 : decode cX1_begin 41 = .ok (.iconst 0, 1) := by decide +kernel
theorem dX1_begin_42 : decode cX1_begin 42 = .ok (.putfield 71, 3) := by decide +kernel
theorem dX1_begin_45 : decode cX1_begin 45 = .ok (.aload_n 0, 1) := by decide +kernel
theorem dX1_begin_46 : decode cX1_begin 46 = .ok (.iconst 0, 1) := by decide +kernel
theorem dX1_begin_47 : decode cX1_begin 47 = .ok (.putfield 74, 3) := by decide +kernel
theorem dX1_begin_50 : decode cX1_begin 50 = .ok (.aload_n 0, 1) := by decide +kernel
theorem dX1_begin_51 : decode cX1_begin 51 = .ok (.iconst 0, 1) := by decide +kernel
theorem dX1_begin_52 : decode cX1_begin 52 = .ok (.putfield 83, 3) := by decide +kernel
theorem dX1_begin_55 : decode cX1_begin 55 = .ok (.aload_n 0, 1) := by decide +kernel
theorem dX1_begin_56 : decode cX1_begin 56 = .ok (.iconst 0, 1) := by decide +kernel
theorem dX1_begin_57 : decode cX1_begin 57 = .ok (.putfield 89, 3) := by decide +kernel
theorem dX1_begin_60 : decode cX1_begin 60 = .ok (.aload_n 0, 1) := by decide +kernel
theorem dX1_begin_61 : decode cX1_begin 61 = .ok (.iconst 0, 1) := by decide +kernel
theorem dX1_begin_62 : decode cX1_begin 62 = .ok (.putfield 36, 3) := by decide +kernel
theorem dX1_begin_65 : decode cX1_begin 65 = .ok (.aload_n 0, 1) := by decide +kernel
theorem dX1_begin_66 : decode cX1_begin 66 = .ok (.iconst 2, 1) := by decide +kernel
theorem dX1_begin_67 : decode cX1_begin 67 = .ok (.putfield 103, 3) := by decide +kernel
theorem dX1_begin_70 : decode cX1_begin 70 = .ok (.aload_n 0, 1) := by decide +kernel
theorem dX1_begin_71 : decode cX1_begin 71 = .ok (.iload_n 1, 1) := by decide +kernel
theorem dX1_begin_72 : decode cX1_begin 72 = .ok (.iconst 0, 1) := by decide +kernel
theorem dX1_begin_73 : decode cX1_begin 73 = .ok (.invokestatic 21, 3) := by decide +kernel
theorem dX1_begin_76 : decode cX1_begin 76 = .ok (.putfield 106, 3) := by decide +kernel
theorem dX1_begin_79 : decode cX1_begin 79 = .ok (.return_, 1) := by decide +kernel
theorem dX1_choose_0 : decode cX1_choose 0 = .ok (.iload_n 1, 1) := by decide +kernel
theorem dX1_choose_1 : decode cX1_choose 1 = .ok (.bipush 6, 2) := by decide +kernel
theorem dX1_choose_3 : decode cX1_choose 3 = .ok (.invokestatic 21, 3) := by decide +kernel
theorem dX1_choose_6 : decode cX1_choose 6 = .ok (.ifCond .eq 12, 3) := by decide +kernel
theorem dX1_choose_9 : decode cX1_choose 9 = .ok (.aload_n 0, 1) := by decide +kernel
theorem dX1_choose_10 : decode cX1_choose 10 = .ok (.iload_n 1, 1) := by decide +kernel
theorem dX1_choose_11 : decode cX1_choose 11 = .ok (.iconst 5, 1) := by decide +kernel
theorem dX1_choose_12 : decode cX1_choose 12 = .ok (.invokestatic 21, 3) := by decide +kernel
theorem dX1_choose_15 : decode cX1_choose 15 = .ok (.putfield 62, 3) := by decide +kernel
theorem dX1_choose_18 : decode cX1_choose 18 = .ok (.iload_n 1, 1) := by decide +kernel
theorem dX1_choose_19 : decode cX1_choose 19 = .ok (.iconst 2, 1) := by decide +kernel
theorem dX1_choose_20 : decode cX1_choose 20 = .ok (.invokestatic 21, 3) := by decide +kernel
theorem dX1_choose_23 : decode cX1_choose 23 = .ok (.ifCond .eq 8, 3) := by decide +kernel
theorem dX1_choose_26 : decode cX1_choose 26 = .ok (.aload_n 0, 1) := by decide +kernel
theorem dX1_choose_27 : decode cX1_choose 27 = .ok (.iconst 1, 1) := by decide +kernel
theorem dX1_choose_28 : decode cX1_choose 28 = .ok (.putfield 83, 3) := by decide +kernel
theorem dX1_choose_31 : decode cX1_choose 31 = .ok (.iload_n 1, 1) := by decide +kernel
theorem dX1_choose_32 : decode cX1_choose 32 = .ok (.iconst 1, 1) := by decide +kernel
theorem dX1_choose_33 : decode cX1_choose 33 = .ok (.invokestatic 21, 3) := by decide +kernel
theorem dX1_choose_36 : decode cX1_choose 36 = .ok (.ifCond .eq 10, 3) := by decide +kernel
theorem dX1_choose_39 : decode cX1_choose 39 = .ok (.aload_n 0, 1) := by decide +kernel
theorem dX1_choose_40 : decode cX1_choose 40 = .ok (.iload_n 1, 1) := by decide +kernel
theorem dX1_choose_41 : decode cX1_choose 41 = .ok (.iconst 1, 1) := by decide +kernel
theorem dX1_choose_42 : decode cX1_choose 42 = .ok (.iand, 1) := by decide +kernel
theorem dX1_choose_43 : decode cX1_choose 43 = .ok (.putfield 89, 3) := by decide +kernel
theorem dX1_choose_46 : decode cX1_choose 46 = .ok (.return_, 1) := by decide +kernel
theorem dX1_endOrTurn_0 : decode cX1_endOrTurn 0 = .ok (.iload_n 1, 1) := by decide +kernel
theorem dX1_endOrTurn_1 : decode cX1_endOrTurn 1 = .ok (.tableswitch 114 0 7 #[47, 55, 114, 70, 78, 86, 93, 101], 47) := by decide +kernel
theorem dX1_endOrTurn_48 : decode cX1_endOrTurn 48 = .ok (.aload_n 0, 1) := by decide +kernel
theorem dX1_endOrTurn_49 : decode cX1_endOrTurn 49 = .ok (.iconst 0, 1) := by decide +kernel
theorem dX1_endOrTurn_50 : decode cX1_endOrTurn 50 = .ok (.putfield 74, 3) := by decide +kernel
theorem dX1_endOrTurn_53 : decode cX1_endOrTurn 53 = .ok (.goto 62, 3) := by decide +kernel
theorem dX1_endOrTurn_56 : decode cX1_endOrTurn 56 = .ok (.aload_n 0, 1) := by decide +kernel
theorem dX1_endOrTurn_57 : decode cX1_endOrTurn 57 = .ok (.aload_n 0, 1) := by decide +kernel
theorem dX1_endOrTurn_58 : decode cX1_endOrTurn 58 = .ok (.aload_n 0, 1) := by decide +kernel
theorem dX1_endOrTurn_59 : decode cX1_endOrTurn 59 = .ok (.invokevirtual 56, 3) := by decide +kernel
theorem dX1_endOrTurn_62 : decode cX1_endOrTurn 62 = .ok (.invokevirtual 46, 3) := by decide +kernel
theorem dX1_endOrTurn_65 : decode cX1_endOrTurn 65 = .ok (.invokevirtual 109, 3) := by decide +kernel
theorem dX1_endOrTurn_68 : decode cX1_endOrTurn 68 = .ok (.goto 47, 3) := by decide +kernel
theorem dX1_endOrTurn_71 : decode cX1_endOrTurn 71 = .ok (.aload_n 0, 1) := by decide +kernel
theorem dX1_endOrTurn_72 : decode cX1_endOrTurn 72 = .ok (.iload_n 2, 1) := by decide +kernel
theorem dX1_endOrTurn_73 : decode cX1_endOrTurn 73 = .ok (.invokevirtual 109, 3) := by decide +kernel
theorem dX1_endOrTurn_76 : decode cX1_endOrTurn 76 = .ok (.goto 39, 3) := by decide +kernel
theorem dX1_endOrTurn_79 : decode cX1_endOrTurn 79 = .ok (.aload_n 0, 1) := by decide +kernel
theorem dX1_endOrTurn_80 : decode cX1_endOrTurn 80 = .ok (.iconst 1, 1) := by decide +kernel
theorem dX1_endOrTurn_81 : decode cX1_endOrTurn 81 = .ok (.putfield 74, 3) := by decide +kernel
theorem dX1_endOrTurn_84 : decode cX1_endOrTurn 84 = .ok (.goto 31, 3) := by decide +kernel
theorem dX1_endOrTurn_87 : decode cX1_endOrTurn 87 = .ok (.aload_n 0, 1) := by decide +kernel
theorem dX1_endOrTurn_88 : decode cX1_endOrTurn 88 = .ok (.invokevirtual 112, 3) := by decide +kernel
theorem dX1_endOrTurn_91 : decode cX1_endOrTurn 91 = .ok (.goto 24, 3) := by decide +kernel
theorem dX1_endOrTurn_94 : decode cX1_endOrTurn 94 = .ok (.aload_n 0, 1) := by decide +kernel
theorem dX1_endOrTurn_95 : decode cX1_endOrTurn 95 = .ok (.iload_n 2, 1) := by decide +kernel
theorem dX1_endOrTurn_96 : decode cX1_endOrTurn 96 = .ok (.putfield 15, 3) := by decide +kernel
theorem dX1_endOrTurn_99 : decode cX1_endOrTurn 99 = .ok (.goto 16, 3) := by decide +kernel
theorem dX1_endOrTurn_102 : decode cX1_endOrTurn 102 = .ok (.aload_n 0, 1) := by decide +kernel
theorem dX1_endOrTurn_103 : decode cX1_endOrTurn 103 = .ok (.iload_n 2, 1) := by decide +kernel
theorem dX1_endOrTurn_104 : decode cX1_endOrTurn 104 = .ok (.invokevirtual 109, 3) := by decide +kernel
theorem dX1_endOrTurn_107 : decode cX1_endOrTurn 107 = .ok (.aload_n 0, 1) := by decide +kernel
theorem dX1_endOrTurn_108 : decode cX1_endOrTurn 108 = .ok (.iload_n 2, 1) := by decide +kernel
theorem dX1_endOrTurn_109 : decode cX1_endOrTurn 109 = .ok (.putfield 15, 3) := by decide +kernel
theorem dX1_endOrTurn_112 : decode cX1_endOrTurn 112 = .ok (.goto 3, 3) := by decide +kernel
theorem dX1_endOrTurn_115 : decode cX1_endOrTurn 115 = .ok (.return_, 1) := by decide +kernel
theorem dX1_endHighestAndTurn_0 : decode cX1_endHighestAndTurn 0 = .ok (.aload_n 0, 1) := by decide +kernel
theorem dX1_endHighestAndTurn_1 : decode cX1_endHighestAndTurn 1 = .ok (.aload_n 0, 1) := by decide +kernel
theorem dX1_endHighestAndTurn_2 : decode cX1_endHighestAndTurn 2 = .ok (.invokevirtual 56, 3) := by decide +kernel
theorem dX1_endHighestAndTurn_5 : decode cX1_endHighestAndTurn 5 = .ok (.invokevirtual 46, 3) := by decide +kernel
theorem dX1_endHighestAndTurn_8 : decode cX1_endHighestAndTurn 8 = .ok (.istore_n 1, 1) := by decide +kernel
theorem dX1_endHighestAndTurn_9 : decode cX1_endHighestAndTurn 9 = .ok (.iload_n 1, 1) := by decide +kernel
theorem dX1_endHighestAndTurn_10 : decode cX1_endHighestAndTurn 10 = .ok (.iconst (-1), 1) := by decide +kernel
theorem dX1_endHighestAndTurn_11 : decode cX1_endHighestAndTurn 11 = .ok (.if_icmp .eq 13, 3) := by decide +kernel
theorem dX1_endHighestAndTurn_14 : decode cX1_endHighestAndTurn 14 = .ok (.aload_n 0, 1) := by decide +kernel
theorem dX1_endHighestAndTurn_15 : decode cX1_endHighestAndTurn 15 = .ok (.iload_n 1, 1) := by decide +kernel
theorem dX1_endHighestAndTurn_16 : decode cX1_endHighestAndTurn 16 = .ok (.invokevirtual 109, 3) := by decide +kernel
theorem dX1_endHighestAndTurn_19 : decode cX1_endHighestAndTurn 19 = .ok (.aload_n 0, 1) := by decide +kernel
theorem dX1_endHighestAndTurn_20 : decode cX1_endHighestAndTurn 20 = .ok (.iload_n 1, 1) := by decide +kernel
theorem dX1_endHighestAndTurn_21 : decode cX1_endHighestAndTurn 21 = .ok (.putfield 15, 3) := by decide +kernel
theorem dX1_endHighestAndTurn_24 : decode cX1_endHighestAndTurn 24 = .ok (.return_, 1) := by decide +kernel
theorem dX1_end_0 : decode cX1_end 0 = .ok (.iload_n 1, 1) := by decide +kernel
theorem dX1_end_1 : decode cX1_end 1 = .ok (.iconst (-1), 1) := by decide +kernel
theorem dX1_end_2 : decode cX1_end 2 = .ok (.if_icmp .eq 36, 3) := by decide +kernel
theorem dX1_end_5 : decode cX1_end 5 = .ok (.aload_n 0, 1) := by decide +kernel
theorem dX1_end_6 : decode cX1_end 6 = .ok (.getfield 65, 3) := by decide +kernel
theorem dX1_end_9 : decode cX1_end 9 = .ok (.iload_n 1, 1) := by decide +kernel
theorem dX1_end_10 : decode cX1_end 10 = .ok (.invokestatic 21, 3) := by decide +kernel
theorem dX1_end_13 : decode cX1_end 13 = .ok (.ifCond .eq 25, 3) := by decide +kernel
theorem dX1_end_16 : decode cX1_end 16 = .ok (.aload_n 0, 1) := by decide +kernel
theorem dX1_end_17 : decode cX1_end 17 = .ok (.aload_n 0, 1) := by decide +kernel
theorem dX1_end_18 : decode cX1_end 18 = .ok (.getfield 65, 3) := by decide +kernel
theorem dX1_end_21 : decode cX1_end 21 = .ok (.iload_n 1, 1) := by decide +kernel
theorem dX1_end_22 : decode cX1_end 22 = .ok (.invokestatic 28, 3) := by decide +kernel
theorem dX1_end_25 : decode cX1_end 25 = .ok (.putfield 65, 3) := by decide +kernel
theorem dX1_end_28 : decode cX1_end 28 = .ok (.aload_n 0, 1) := by decide +kernel
theorem dX1_end_29 : decode cX1_end 29 = .ok (.dup, 1) := by decide +kernel
theorem dX1_end_30 : decode cX1_end 30 = .ok (.getfield 115, 3) := by decide +kernel
theorem dX1_end_33 : decode cX1_end 33 = .ok (.iconst 1, 1) := by decide +kernel
theorem dX1_end_34 : decode cX1_end 34 = .ok (.iadd, 1) := by decide +kernel
theorem dX1_end_35 : decode cX1_end 35 = .ok (.putfield 115, 3) := by decide +kernel
theorem dX1_end_38 : decode cX1_end 38 = .ok (.return_, 1) := by decide +kernel
theorem dX1_highestOf_0 : decode cX1_highestOf 0 = .ok (.iconst 0, 1) := by decide +kernel
theorem dX1_highestOf_1 : decode cX1_highestOf 1 = .ok (.istore_n 2, 1) := by decide +kernel
theorem dX1_highestOf_2 : decode cX1_highestOf 2 = .ok (.iload_n 2, 1) := by decide +kernel
theorem dX1_highestOf_3 : decode cX1_highestOf 3 = .ok (.bipush 8, 2) := by decide +kernel
theorem dX1_highestOf_5 : decode cX1_highestOf 5 = .ok (.if_icmp .ge 31, 3) := by decide +kernel
theorem dX1_highestOf_8 : decode cX1_highestOf 8 = .ok (.aload_n 0, 1) := by decide +kernel
theorem dX1_highestOf_9 : decode cX1_highestOf 9 = .ok (.getfield 15, 3) := by decide +kernel
theorem dX1_highestOf_12 : decode cX1_highestOf 12 = .ok (.iconst 1, 1) := by decide +kernel
theorem dX1_highestOf_13 : decode cX1_highestOf 13 = .ok (.iadd, 1) := by decide +kernel
theorem dX1_highestOf_14 : decode cX1_highestOf 14 = .ok (.iload_n 2, 1) := by decide +kernel
theorem dX1_highestOf_15 : decode cX1_highestOf 15 = .ok (.iadd, 1) := by decide +kernel
theorem dX1_highestOf_16 : decode cX1_highestOf 16 = .ok (.bipush 7, 2) := by decide +kernel
theorem dX1_highestOf_18 : decode cX1_highestOf 18 = .ok (.iand, 1) := by decide +kernel
theorem dX1_highestOf_19 : decode cX1_highestOf 19 = .ok (.istore_n 3, 1) := by decide +kernel
theorem dX1_highestOf_20 : decode cX1_highestOf 20 = .ok (.iload_n 1, 1) := by decide +kernel
theorem dX1_highestOf_21 : decode cX1_highestOf 21 = .ok (.iload_n 3, 1) := by decide +kernel
theorem dX1_highestOf_22 : decode cX1_highestOf 22 = .ok (.invokestatic 21, 3) := by decide +kernel
theorem dX1_highestOf_25 : decode cX1_highestOf 25 = .ok (.ifCond .eq 5, 3) := by decide +kernel
theorem dX1_highestOf_28 : decode cX1_highestOf 28 = .ok (.iload_n 3, 1) := by decide +kernel
theorem dX1_highestOf_29 : decode cX1_highestOf 29 = .ok (.ireturn, 1) := by decide +kernel
theorem dX1_highestOf_30 : decode cX1_highestOf 30 = .ok (.iinc 2 1, 3) := by decide +kernel
theorem dX1_highestOf_33 : decode cX1_highestOf 33 = .ok (.goto (-31), 3) := by decide +kernel
theorem dX1_highestOf_36 : decode cX1_highestOf 36 = .ok (.iconst (-1), 1) := by decide +kernel
theorem dX1_highestOf_37 : decode cX1_highestOf 37 = .ok (.ireturn, 1) := by decide +kernel
theorem dX1_rankOf_0 : decode cX1_rankOf 0 = .ok (.iload_n 1, 1) := by decide +kernel
theorem dX1_rankOf_1 : decode cX1_rankOf 1 = .ok (.aload_n 0, 1) := by decide +kernel
theorem dX1_rankOf_2 : decode cX1_rankOf 2 = .ok (.getfield 15, 3) := by decide +kernel
theorem dX1_rankOf_5 : decode cX1_rankOf 5 = .ok (.isub, 1) := by decide +kernel
theorem dX1_rankOf_6 : decode cX1_rankOf 6 = .ok (.iconst 1, 1) := by decide +kernel
theorem dX1_rankOf_7 : decode cX1_rankOf 7 = .ok (.isub, 1) := by decide +kernel
theorem dX1_rankOf_8 : decode cX1_rankOf 8 = .ok (.bipush 7, 2) := by decide +kernel
theorem dX1_rankOf_10 : decode cX1_rankOf 10 = .ok (.iand, 1) := by decide +kernel
theorem dX1_rankOf_11 : decode cX1_rankOf 11 = .ok (.ireturn, 1) := by decide +kernel
theorem dX1_hasBit_0 : decode cX1_hasBit 0 = .ok (.iload_n 0, 1) := by decide +kernel
theorem dX1_hasBit_1 : decode cX1_hasBit 1 = .ok (.iload_n 1, 1) := by decide +kernel
theorem dX1_hasBit_2 : decode cX1_hasBit 2 = .ok (.ishr, 1) := by decide +kernel
theorem dX1_hasBit_3 : decode cX1_hasBit 3 = .ok (.iconst 1, 1) := by decide +kernel
theorem dX1_hasBit_4 : decode cX1_hasBit 4 = .ok (.iand, 1) := by decide +kernel
theorem dX1_hasBit_5 : decode cX1_hasBit 5 = .ok (.ifCond .eq 7, 3) := by decide +kernel
theorem dX1_hasBit_8 : decode cX1_hasBit 8 = .ok (.iconst 1, 1) := by decide +kernel
theorem dX1_hasBit_9 : decode cX1_hasBit 9 = .ok (.goto 4, 3) := by decide +kernel
theorem dX1_hasBit_12 : decode cX1_hasBit 12 = .ok (.iconst 0, 1) := by decide +kernel
theorem dX1_hasBit_13 : decode cX1_hasBit 13 = .ok (.ireturn, 1) := by decide +kernel
theorem dX1_without_0 : decode cX1_without 0 = .ok (.iload_n 0, 1) := by decide +kernel
theorem dX1_without_1 : decode cX1_without 1 = .ok (.iconst 1, 1) := by decide +kernel
theorem dX1_without_2 : decode cX1_without 2 = .ok (.iload_n 1, 1) := by decide +kernel
theorem dX1_without_3 : decode cX1_without 3 = .ok (.ishl, 1) := by decide +kernel
theorem dX1_without_4 : decode cX1_without 4 = .ok (.iconst (-1), 1) := by decide +kernel
theorem dX1_without_5 : decode cX1_without 5 = .ok (.ixor, 1) := by decide +kernel
theorem dX1_without_6 : decode cX1_without 6 = .ok (.iand, 1) := by decide +kernel
theorem dX1_without_7 : decode cX1_without 7 = .ok (.ireturn, 1) := by decide +kernel
