theorem dX2_init_0 : decode cX2_init 0 = .ok (.aload_n 0, 1) := by decide +kernel
theorem dX2_init_1 : decode cX2_init 1 = .ok (.invokespecial 1, 3) := by decide +kernel
theorem dX2_init_4 : decode cX2_init 4 = .ok (.aload_n 0, 1) := by decide +kernel
theorem dX2_init_5 : decode cX2_init 5 = .ok (.bipush 16, 2) := by decide +kernel
theorem dX2_init_7 : decode cX2_init 7 = .ok (.newarray .boolean, 2) := by decide +kernel
theorem dX2_init_9 : decode cX2_init 9 = .ok (.putfield 7, 3) := by decide +kernel
theorem dX2_init_12 : decode cX2_init 12 = .ok (.aload_n 0, 1) := by decide +kernel
theorem dX2_init_13 : decode cX2_init 13 = .ok (.bipush 16, 2) := by decide +kernel
theorem dX2_init_15 : decode cX2_init 15 = .ok (.newarray .boolean, 2) := by decide +kernel
theorem dX2_init_17 : decode cX2_init 17 = .ok (.putfield 13, 3) := by decide +kernel
theorem dX2_init_20 : decode cX2_init 20 = .ok (.aload_n 0, 1) := by decide +kernel
theorem dX2_init_21 : decode cX2_init 21 = .ok (.bipush 16, 2) := by decide +kernel
theorem dX2_init_23 : decode cX2_init 23 = .ok (.newarray .boolean, 2) := by decide +kernel
theorem dX2_init_25 : decode cX2_init 25 = .ok (.putfield 16, 3) := by decide +kernel
theorem dX2_init_28 : decode cX2_init 28 = .ok (.aload_n 0, 1) := by decide +kernel
theorem dX2_init_29 : decode cX2_init 29 = .ok (.bipush 16, 2) := by decide +kernel
theorem dX2_init_31 : decode cX2_init 31 = .ok (.newarray .boolean, 2) := by decide +kernel
theorem dX2_init_33 : decode cX2_init 33 = .ok (.putfield 19, 3) := by decide +kernel
theorem dX2_init_36 : decode cX2_init 36 = .ok (.aload_n 0, 1) := by decide +kernel
theorem dX2_init_37 : decode cX2_init 37 = .ok (.iconst 2, 1) := by decide +kernel
theorem dX2_init_38 : decode cX2_init 38 = .ok (.newarray .int, 2) := by decide +kernel
theorem dX2_init_40 : decode cX2_init 40 = .ok (.putfield 22, 3) := by decide +kernel
theorem dX2_init_43 : decode cX2_init 43 = .ok (.aload_n 0, 1) := by decide +kernel
theorem dX2_init_44 : decode cX2_init 44 = .ok (.iconst 2, 1) := by decide +kernel
theorem dX2_init_45 : decode cX2_init 45 = .ok (.newarray .int, 2) := by decide +kernel
theorem dX2_init_47 : decode cX2_init 47 = .ok (.putfield 26, 3) := by decide +kernel
theorem dX2_init_50 : decode cX2_init 50 = .ok (.aload_n 0, 1) := by decide +kernel
theorem dX2_init_51 : decode cX2_init 51 = .ok (.iconst 2, 1) := by decide +kernel
theorem dX2_init_52 : decode cX2_init 52 = .ok (.newarray .int, 2) := by decide +kernel
theorem dX2_init_54 : decode cX2_init 54 = .ok (.putfield 29, 3) := by decide +kernel
theorem dX2_init_57 : decode cX2_init 57 = .ok (.aload_n 0, 1) := by decide +kernel
theorem dX2_init_58 : decode cX2_init 58 = .ok (.iconst 2, 1) := by decide +kernel
theorem dX2_init_59 : decode cX2_init 59 = .ok (.newarray .int, 2) := by decide +kernel
theorem dX2_init_61 : decode cX2_init 61 = .ok (.putfield 32, 3) := by decide +kernel
theorem dX2_init_64 : decode cX2_init 64 = .ok (.aload_n 0, 1) := by decide +kernel
theorem dX2_init_65 : decode cX2_init 65 = .ok (.bipush 14, 2) := by decide +kernel
theorem dX2_init_67 : decode cX2_init 67 = .ok (.newarray .boolean, 2) := by decide +kernel
theorem dX2_init_69 : decode cX2_init 69 = .ok (.putfield 35, 3) := by decide +kernel
theorem dX2_init_72 : decode cX2_init 72 = .ok (.aload_n 0, 1) := by decide +kernel
theorem dX2_init_73 : decode cX2_init 73 = .ok (.iconst 2, 1) := by decide +kernel
theorem dX2_init_74 : decode cX2_init 74 = .ok (.newarray .boolean, 2) := by decide +kernel
theorem dX2_init_76 : decode cX2_init 76 = .ok (.putfield 38, 3) := by decide +kernel
theorem dX2_init_79 : decode cX2_init 79 = .ok (.aload_n 0, 1) := by decide +kernel
theorem dX2_init_80 : decode cX2_init 80 = .ok (.getfield 22, 3) := by decide +kernel
theorem dX2_init_83 : decode cX2_init 83 = .ok (.iconst 0, 1) := by decide +kernel
theorem dX2_init_84 : decode cX2_init 84 = .ok (.bipush 7, 2) := by decide +kernel
theorem dX2_init_86 : decode cX2_init 86 = .ok (.iastore, 1) := by decide +kernel
theorem dX2_init_87 : decode cX2_init 87 = .ok (.aload_n 0, 1) := by decide +kernel
theorem dX2_init_88 : decode cX2_init 88 = .ok (.getfield 22, 3) := by decide +kernel
theorem dX2_init_91 : decode cX2_init 91 = .ok (.iconst 1, 1) := by decide +kernel
theorem dX2_init_92 : decode cX2_init 92 = .ok (.bipush 7, 2) := by decide +kernel
theorem dX2_init_94 : decode cX2_init 94 = .ok (.iastore, 1) := by decide +kernel
theorem dX2_init_95 : decode cX2_init 95 = .ok (.return_, 1) := by decide +kernel
theorem dX2_thrown_0 : decode cX2_thrown 0 = .ok (.aload_n 0, 1) := by decide +kernel
theorem dX2_thrown_1 : decode cX2_thrown 1 = .ok (.getfield 41, 3) := by decide +kernel
theorem dX2_thrown_4 : decode cX2_thrown 4 = .ok (.ireturn, 1) := by decide +kernel
theorem dX2_goes_0 : decode cX2_goes 0 = .ok (.aload_n 0, 1) := by decide +kernel
theorem dX2_goes_1 : decode cX2_goes 1 = .ok (.iload_n 1, 1) := by decide +kernel
theorem dX2_goes_2 : decode cX2_goes 2 = .ok (.ifCond .ne 7, 3) := by decide +kernel
theorem dX2_goes_5 : decode cX2_goes 5 = .ok (.iconst 1, 1) := by decide +kernel
theorem dX2_goes_6 : decode cX2_goes 6 = .ok (.goto 12, 3) := by decide +kernel
theorem dX2_goes_9 : decode cX2_goes 9 = .ok (.iload_n 2, 1) := by decide +kernel
theorem dX2_goes_10 : decode cX2_goes 10 = .ok (.ifCond .ne 7, 3) := by decide +kernel
theorem dX2_goes_13 : decode cX2_goes 13 = .ok (.iconst 2, 1) := by decide +kernel
theorem dX2_goes_14 : decode cX2_goes 14 = .ok (.goto 4, 3) := by decide +kernel
theorem dX2_goes_17 : decode cX2_goes 17 = .ok (.iconst 0, 1) := by decide +kernel
theorem dX2_goes_18 : decode cX2_goes 18 = .ok (.putfield 41, 3) := by decide +kernel
theorem dX2_goes_21 : decode cX2_goes 21 = .ok (.aload_n 0, 1) := by decide +kernel
theorem dX2_goes_22 : decode cX2_goes 22 = .ok (.getfield 41, 3) := by decide +kernel
theorem dX2_goes_25 : decode cX2_goes 25 = .ok (.ifCond .ne 7, 3) := by decide +kernel
theorem dX2_goes_28 : decode cX2_goes 28 = .ok (.iconst 1, 1) := by decide +kernel
theorem dX2_goes_29 : decode cX2_goes 29 = .ok (.goto 4, 3) := by decide +kernel
theorem dX2_goes_32 : decode cX2_goes 32 = .ok (.iconst 0, 1) := by decide +kernel
theorem dX2_goes_33 : decode cX2_goes 33 = .ok (.ireturn, 1) := by decide +kernel
theorem dX2_isController_0 : decode cX2_isController 0 = .ok (.iload_n 0, 1) := by decide +kernel
theorem dX2_isController_1 : decode cX2_isController 1 = .ok (.ifCond .eq 8, 3) := by decide +kernel
theorem dX2_isController_4 : decode cX2_isController 4 = .ok (.iload_n 0, 1) := by decide +kernel
theorem dX2_isController_5 : decode cX2_isController 5 = .ok (.iconst 1, 1) := by decide +kernel
theorem dX2_isController_6 : decode cX2_isController 6 = .ok (.if_icmp .ne 7, 3) := by decide +kernel
theorem dX2_isController_9 : decode cX2_isController 9 = .ok (.iconst 1, 1) := by decide +kernel
theorem dX2_isController_10 : decode cX2_isController 10 = .ok (.goto 4, 3) := by decide +kernel
theorem dX2_isController_13 : decode cX2_isController 13 = .ok (.iconst 0, 1) := by decide +kernel
theorem dX2_isController_14 : decode cX2_isController 14 = .ok (.ireturn, 1) := by decide +kernel
theorem dX2_is_0 : decode cX2_is 0 = .ok (.aload_n 0, 1) := by decide +kernel
theorem dX2_is_1 : decode cX2_is 1 = .ok (.getfield 35, 3) := by decide +kernel
theorem dX2_is_4 : decode cX2_is 4 = .ok (.bipush 7, 2) := by decide +kernel
theorem dX2_is_6 : decode cX2_is 6 = .ok (.iload_n 1, 1) := by decide +kernel
theorem dX2_is_7 : decode cX2_is 7 = .ok (.imul, 1) := by decide +kernel
theorem dX2_is_8 : decode cX2_is 8 = .ok (.iload_n 2, 1) := by decide +kernel
theorem dX2_is_9 : decode cX2_is 9 = .ok (.iadd, 1) := by decide +kernel
theorem dX2_is_10 : decode cX2_is 10 = .ok (.baload, 1) := by decide +kernel
theorem dX2_is_11 : decode cX2_is 11 = .ok (.ireturn, 1) := by decide +kernel
theorem dX2_requested_0 : decode cX2_requested 0 = .ok (.aload_n 0, 1) := by decide +kernel
theorem dX2_requested_1 : decode cX2_requested 1 = .ok (.iload_n 1, 1) := by decide +kernel
theorem dX2_requested_2 : decode cX2_requested 2 = .ok (.iconst 1, 1) := by decide +kernel
theorem dX2_requested_3 : decode cX2_requested 3 = .ok (.invokevirtual 45, 3) := by decide +kernel
theorem dX2_requested_6 : decode cX2_requested 6 = .ok (.ifCond .eq 17, 3) := by decide +kernel
theorem dX2_requested_9 : decode cX2_requested 9 = .ok (.aload_n 0, 1) := by decide +kernel
theorem dX2_requested_10 : decode cX2_requested 10 = .ok (.getfield 7, 3) := by decide +kernel
theorem dX2_requested_13 : decode cX2_requested 13 = .ok (.bipush 8, 2) := by decide +kernel
theorem dX2_requested_15 : decode cX2_requested 15 = .ok (.iload_n 1, 1) := by decide +kernel
theorem dX2_requested_16 : decode cX2_requested 16 = .ok (.imul, 1) := by decide +kernel
theorem dX2_requested_17 : decode cX2_requested 17 = .ok (.iload_n 2, 1) := by decide +kernel
theorem dX2_requested_18 : decode cX2_requested 18 = .ok (.iadd, 1) := by decide +kernel
theorem dX2_requested_19 : decode cX2_requested 19 = .ok (.baload, 1) := by decide +kernel
theorem dX2_requested_20 : decode cX2_requested 20 = .ok (.goto 14, 3) := by decide +kernel
theorem dX2_requested_23 : decode cX2_requested 23 = .ok (.aload_n 0, 1) := by decide +kernel
theorem dX2_requested_24 : decode cX2_requested 24 = .ok (.getfield 13, 3) := by decide +kernel
theorem dX2_requested_27 : decode cX2_requested 27 = .ok (.bipush 8, 2) := by decide +kernel
theorem dX2_requested_29 : decode cX2_requested 29 = .ok (.iload_n 1, 1) := by decide +kernel
theorem dX2_requested_30 : decode cX2_requested 30 = .ok (.imul, 1) := by decide +kernel
theorem dX2_requested_31 : decode cX2_requested 31 = .ok (.iload_n 2, 1) := by decide +kernel
theorem dX2_requested_32 : decode cX2_requested 32 = .ok (.iadd, 1) := by decide +kernel
theorem dX2_requested_33 : decode cX2_requested 33 = .ok (.baload, 1) := by decide +kernel
theorem dX2_requested_34 : decode cX2_requested 34 = .ok (.ireturn, 1) := by decide +kernel
theorem dX2_ranked_0 : decode cX2_ranked 0 = .ok (.aload_n 0, 1) := by decide +kernel
theorem dX2_ranked_1 : decode cX2_ranked 1 = .ok (.getfield 22, 3) := by decide +kernel
theorem dX2_ranked_4 : decode cX2_ranked 4 = .ok (.iload_n 1, 1) := by decide +kernel
theorem dX2_ranked_5 : decode cX2_ranked 5 = .ok (.iaload, 1) := by decide +kernel
theorem dX2_ranked_6 : decode cX2_ranked 6 = .ok (.iconst 1, 1) := by decide +kernel
theorem dX2_ranked_7 : decode cX2_ranked 7 = .ok (.iadd, 1) := by decide +kernel
theorem dX2_ranked_8 : decode cX2_ranked 8 = .ok (.iload_n 2, 1) := by decide +kernel
theorem dX2_ranked_9 : decode cX2_ranked 9 = .ok (.iadd, 1) := by decide +kernel
theorem dX2_ranked_10 : decode cX2_ranked 10 = .ok (.bipush 8, 2) := by decide +kernel
theorem dX2_ranked_12 : decode cX2_ranked 12 = .ok (.irem, 1) := by decide +kernel
theorem dX2_ranked_13 : decode cX2_ranked 13 = .ok (.ireturn, 1) := by decide +kernel
theorem dX2_blocks_0 : decode cX2_blocks 0 = .ok (.aload_n 0, 1) := by decide +kernel
theorem dX2_blocks_1 : decode cX2_blocks 1 = .ok (.getfield 16, 3) := by decide +kernel
theorem dX2_blocks_4 : decode cX2_blocks 4 = .ok (.bipush 8, 2) := by decide +kernel
theorem dX2_blocks_6 : decode cX2_blocks 6 = .ok (.iload_n 1, 1) := by decide +kernel
theorem dX2_blocks_7 : decode cX2_blocks 7 = .ok (.imul, 1) := by decide +kernel
theorem dX2_blocks_8 : decode cX2_blocks 8 = .ok (.iload_n 2, 1) := by decide +kernel
theorem dX2_blocks_9 : decode cX2_blocks 9 = .ok (.iadd, 1) := by decide +kernel
theorem dX2_blocks_10 : decode cX2_blocks 10 = .ok (.baload, 1) := by decide +kernel
theorem dX2_blocks_11 : decode cX2_blocks 11 = .ok (.ifCond .eq 30, 3) := by decide +kernel
theorem dX2_blocks_14 : decode cX2_blocks 14 = .ok (.aload_n 0, 1) := by decide +kernel
theorem dX2_blocks_15 : decode cX2_blocks 15 = .ok (.iload_n 1, 1) := by decide +kernel
theorem dX2_blocks_16 : decode cX2_blocks 16 = .ok (.iconst 2, 1) := by decide +kernel
theorem dX2_blocks_17 : decode cX2_blocks 17 = .ok (.invokevirtual 45, 3) := by decide +kernel
theorem dX2_blocks_20 : decode cX2_blocks 20 = .ok (.ifCond .eq 17, 3) := by decide +kernel
theorem dX2_blocks_23 : decode cX2_blocks 23 = .ok (.aload_n 0, 1) := by decide +kernel
theorem dX2_blocks_24 : decode cX2_blocks 24 = .ok (.getfield 19, 3) := by decide +kernel
theorem dX2_blocks_27 : decode cX2_blocks 27 = .ok (.bipush 8, 2) := by decide +kernel
theorem dX2_blocks_29 : decode cX2_blocks 29 = .ok (.iload_n 1, 1) := by decide +kernel
theorem dX2_blocks_30 : decode cX2_blocks 30 = .ok (.imul, 1) := by decide +kernel
theorem dX2_blocks_31 : decode cX2_blocks 31 = .ok (.iload_n 2, 1) := by decide +kernel
theorem dX2_blocks_32 : decode cX2_blocks 32 = .ok (.iadd, 1) := by decide +kernel
theorem dX2_blocks_33 : decode cX2_blocks 33 = .ok (.baload, 1) := by decide +kernel
theorem dX2_blocks_34 : decode cX2_blocks 34 = .ok (.ifCond .ne 7, 3) := by decide +kernel
theorem dX2_blocks_37 : decode cX2_blocks 37 = .ok (.iconst 1, 1) := by decide +kernel
theorem dX2_blocks_38 : decode cX2_blocks 38 = .ok (.goto 4, 3) := by decide +kernel
theorem dX2_blocks_41 : decode cX2_blocks 41 = .ok (.iconst 0, 1) := by decide +kernel
theorem dX2_blocks_42 : decode cX2_blocks 42 = .ok (.ireturn, 1) := by decide +kernel
theorem dX2_delivered_0 : decode cX2_delivered 0 = .ok (.aload_n 0, 1) := by decide +kernel
theorem dX2_delivered_1 : decode cX2_delivered 1 = .ok (.iload_n 1, 1) := by decide +kernel
theorem dX2_delivered_2 : decode cX2_delivered 2 = .ok (.iconst 0, 1) := by decide +kernel
theorem dX2_delivered_3 : decode cX2_delivered 3 = .ok (.invokevirtual 45, 3) := by decide +kernel
theorem dX2_delivered_6 : decode cX2_delivered 6 = .ok (.ifCond .ne 7, 3) := by decide +kernel
theorem dX2_delivered_9 : decode cX2_delivered 9 = .ok (.iconst 1, 1) := by decide +kernel
theorem dX2_delivered_10 : decode cX2_delivered 10 = .ok (.goto 4, 3) := by decide +kernel
theorem dX2_delivered_13 : decode cX2_delivered 13 = .ok (.iconst 0, 1) := by decide +kernel
theorem dX2_delivered_14 : decode cX2_delivered 14 = .ok (.istore_n 2, 1) := by decide +kernel
theorem dX2_delivered_15 : decode cX2_delivered 15 = .ok (.iconst 0, 1) := by decide +kernel
theorem dX2_delivered_16 : decode cX2_delivered 16 = .ok (.istore_n 3, 1) := by decide +kernel
theorem dX2_delivered_17 : decode cX2_delivered 17 = .ok (.iload_n 3, 1) := by decide +kernel
theorem dX2_delivered_18 : decode cX2_delivered 18 = .ok (.bipush 8, 2) := by decide +kernel
theorem dX2_delivered_20 : decode cX2_delivered 20 = .ok (.if_icmp .ge 120, 3) := by decide +kernel
theorem dX2_delivered_23 : decode cX2_delivered 23 = .ok (.iload_n 2, 1) := by decide +kernel
theorem dX2_delivered_24 : decode cX2_delivered 24 = .ok (.ifCond .ne 116, 3) := by decide +kernel
theorem dX2_delivered_27 : decode cX2_delivered 27 = .ok (.aload_n 0, 1) := by decide +kernel
theorem dX2_delivered_28 : decode cX2_delivered 28 = .ok (.iload_n 1, 1) := by decide +kernel
theorem dX2_delivered_29 : decode cX2_delivered 29 = .ok (.iload_n 3, 1) := by decide +kernel
theorem dX2_delivered_30 : decode cX2_delivered 30 = .ok (.invokevirtual 49, 3) := by decide +kernel
theorem dX2_delivered_33 : decode cX2_delivered 33 = .ok (.istore 4, 2) := by decide +kernel
theorem dX2_delivered_35 : decode cX2_delivered 35 = .ok (.iload_n 1, 1) := by decide +kernel
theorem dX2_delivered_36 : decode cX2_delivered 36 = .ok (.ifCond .ne 22, 3) := by decide +kernel
theorem dX2_delivered_39 : decode cX2_delivered 39 = .ok (.iload 4, 2) := by decide +kernel
theorem dX2_delivered_41 : decode cX2_delivered 41 = .ok (.iconst 2, 1) := by decide +kernel
theorem dX2_delivered_42 : decode cX2_delivered 42 = .ok (.if_icmp .ne 16, 3) := by decide +kernel
theorem dX2_delivered_45 : decode cX2_delivered 45 = .ok (.aload_n 0, 1) := by decide +kernel
theorem dX2_delivered_46 : decode cX2_delivered 46 = .ok (.iconst 0, 1) := by decide +kernel
theorem dX2_delivered_47 : decode cX2_delivered 47 = .ok (.iconst 3, 1) := by decide +kernel
theorem dX2_delivered_48 : decode cX2_delivered 48 = .ok (.invokevirtual 45, 3) := by decide +kernel
theorem dX2_delivered_51 : decode cX2_delivered 51 = .ok (.ifCond .eq 7, 3) := by decide +kernel
theorem dX2_delivered_54 : decode cX2_delivered 54 = .ok (.iconst 1, 1) := by decide +kernel
theorem dX2_delivered_55 : decode cX2_delivered 55 = .ok (.goto 4, 3) := by decide +kernel
theorem dX2_delivered_58 : decode cX2_delivered 58 = .ok (.iconst 0, 1) := by decide +kernel
theorem dX2_delivered_59 : decode cX2_delivered 59 = .ok (.istore 5, 2) := by decide +kernel
theorem dX2_delivered_61 : decode cX2_delivered 61 = .ok (.aload_n 0, 1) := by decide +kernel
theorem dX2_delivered_62 : decode cX2_delivered 62 = .ok (.iload_n 1, 1) := by decide +kernel
theorem dX2_delivered_63 : decode cX2_delivered 63 = .ok (.iload 4, 2) := by decide +kernel
theorem dX2_delivered_65 : decode cX2_delivered 65 = .ok (.invokevirtual 53, 3) := by decide +kernel
theorem dX2_delivered_68 : decode cX2_delivered 68 = .ok (.ifCond .eq 12, 3) := by decide +kernel
theorem dX2_delivered_71 : decode cX2_delivered 71 = .ok (.iload 5, 2) := by decide +kernel
theorem dX2_delivered_73 : decode cX2_delivered 73 = .ok (.ifCond .ne 7, 3) := by decide +kernel
theorem dX2_delivered_76 : decode cX2_delivered 76 = .ok (.iconst 1, 1) := by decide +kernel
theorem dX2_delivered_77 : decode cX2_delivered 77 = .ok (.goto 4, 3) := by decide +kernel
theorem dX2_delivered_80 : decode cX2_delivered 80 = .ok (.iconst 0, 1) := by decide +kernel
theorem dX2_delivered_81 : decode cX2_delivered 81 = .ok (.istore_n 2, 1) := by decide +kernel
theorem dX2_delivered_82 : decode cX2_delivered 82 = .ok (.iload_n 2, 1) := by decide +kernel
theorem dX2_delivered_83 : decode cX2_delivered 83 = .ok (.ifCond .ne 31, 3) := by decide +kernel
theorem dX2_delivered_86 : decode cX2_delivered 86 = .ok (.aload_n 0, 1) := by decide +kernel
theorem dX2_delivered_87 : decode cX2_delivered 87 = .ok (.iload_n 1, 1) := by decide +kernel
theorem dX2_delivered_88 : decode cX2_delivered 88 = .ok (.iload 4, 2) := by decide +kernel
theorem dX2_delivered_90 : decode cX2_delivered 90 = .ok (.invokevirtual 56, 3) := by decide +kernel
theorem dX2_delivered_93 : decode cX2_delivered 93 = .ok (.ifCond .eq 21, 3) := by decide +kernel
theorem dX2_delivered_96 : decode cX2_delivered 96 = .ok (.aload_n 0, 1) := by decide +kernel
theorem dX2_delivered_97 : decode cX2_delivered 97 = .ok (.getfield 19, 3) := by decide +kernel
theorem dX2_delivered_100 : decode cX2_delivered 100 = .ok (.bipush 8, 2) := by decide +kernel
theorem dX2_delivered_102 : decode cX2_delivered 102 = .ok (.iload_n 1, 1) := by decide +kernel
theorem dX2_delivered_103 : decode cX2_delivered 103 = .ok (.imul, 1) := by decide +kernel
theorem dX2_delivered_104 : decode cX2_delivered 104 = .ok (.iload 4, 2) := by decide +kernel
theorem dX2_delivered_106 : decode cX2_delivered 106 = .ok (.iadd, 1) := by decide +kernel
theorem dX2_delivered_107 : decode cX2_delivered 107 = .ok (.baload, 1) := by decide +kernel
theorem dX2_delivered_108 : decode cX2_delivered 108 = .ok (.ifCond .ne 6, 3) := by decide +kernel
theorem dX2_delivered_111 : decode cX2_delivered 111 = .ok (.iload 4, 2) := by decide +kernel
theorem dX2_delivered_113 : decode cX2_delivered 113 = .ok (.ireturn, 1) := by decide +kernel
theorem dX2_delivered_114 : decode cX2_delivered 114 = .ok (.iload_n 2, 1) := by decide +kernel
theorem dX2_delivered_115 : decode cX2_delivered 115 = .ok (.ifCond .ne 13, 3) := by decide +kernel
theorem dX2_delivered_118 : decode cX2_delivered 118 = .ok (.aload_n 0, 1) := by decide +kernel
theorem dX2_delivered_119 : decode cX2_delivered 119 = .ok (.iload_n 1, 1) := by decide +kernel
theorem dX2_delivered_120 : decode cX2_delivered 120 = .ok (.iload 4, 2) := by decide +kernel
theorem dX2_delivered_122 : decode cX2_delivered 122 = .ok (.invokevirtual 53, 3) := by decide +kernel
theorem dX2_delivered_125 : decode cX2_delivered 125 = .ok (.ifCond .eq 7, 3) := by decide +kernel
theorem dX2_delivered_128 : decode cX2_delivered 128 = .ok (.iconst 1, 1) := by decide +kernel
theorem dX2_delivered_129 : decode cX2_delivered 129 = .ok (.goto 4, 3) := by decide +kernel
theorem dX2_delivered_132 : decode cX2_delivered 132 = .ok (.iconst 0, 1) := by decide +kernel
theorem dX2_delivered_133 : decode cX2_delivered 133 = .ok (.istore_n 2, 1) := by decide +kernel
theorem dX2_delivered_134 : decode cX2_delivered 134 = .ok (.iinc 3 1, 3) := by decide +kernel
theorem dX2_delivered_137 : decode cX2_delivered 137 = .ok (.goto (-120), 3) := by decide +kernel
theorem dX2_delivered_140 : decode cX2_delivered 140 = .ok (.iconst (-1), 1) := by decide +kernel
theorem dX2_delivered_141 : decode cX2_delivered 141 = .ok (.ireturn, 1) := by decide +kernel
theorem dX2_raise_0 : decode cX2_raise 0 = .ok (.aload_n 0, 1) := by decide +kernel
theorem dX2_raise_1 : decode cX2_raise 1 = .ok (.getfield 7, 3) := by decide +kernel
theorem dX2_raise_4 : decode cX2_raise 4 = .ok (.iload_n 1, 1) := by decide +kernel
theorem dX2_raise_5 : decode cX2_raise 5 = .ok (.baload, 1) := by decide +kernel
theorem dX2_raise_6 : decode cX2_raise 6 = .ok (.iload_n 2, 1) := by decide +kernel
theorem dX2_raise_7 : decode cX2_raise 7 = .ok (.if_icmp .eq 17, 3) := by decide +kernel
theorem dX2_raise_10 : decode cX2_raise 10 = .ok (.aload_n 0, 1) := by decide +kernel
theorem dX2_raise_11 : decode cX2_raise 11 = .ok (.getfield 7, 3) := by decide +kernel
theorem dX2_raise_14 : decode cX2_raise 14 = .ok (.iload_n 1, 1) := by decide +kernel
theorem dX2_raise_15 : decode cX2_raise 15 = .ok (.iload_n 2, 1) := by decide +kernel
theorem dX2_raise_16 : decode cX2_raise 16 = .ok (.bastore, 1) := by decide +kernel
theorem dX2_raise_17 : decode cX2_raise 17 = .ok (.aload_n 0, 1) := by decide +kernel
theorem dX2_raise_18 : decode cX2_raise 18 = .ok (.getfield 13, 3) := by decide +kernel
theorem dX2_raise_21 : decode cX2_raise 21 = .ok (.iload_n 1, 1) := by decide +kernel
theorem dX2_raise_22 : decode cX2_raise 22 = .ok (.iload_n 2, 1) := by decide +kernel
theorem dX2_raise_23 : decode cX2_raise 23 = .ok (.bastore, 1) := by decide +kernel
theorem dX2_raise_24 : decode cX2_raise 24 = .ok (.return_, 1) := by decide +kernel
theorem dX2_follow_0 : decode cX2_follow 0 = .ok (.aload_n 0, 1) := by decide +kernel
theorem dX2_follow_1 : decode cX2_follow 1 = .ok (.iconst 2, 1) := by decide +kernel
theorem dX2_follow_2 : decode cX2_follow 2 = .ok (.aload_n 0, 1) := by decide +kernel
theorem dX2_follow_3 : decode cX2_follow 3 = .ok (.iconst 1, 1) := by decide +kernel
theorem dX2_follow_4 : decode cX2_follow 4 = .ok (.invokevirtual 59, 3) := by decide +kernel
theorem dX2_follow_7 : decode cX2_follow 7 = .ok (.iconst (-1), 1) := by decide +kernel
theorem dX2_follow_8 : decode cX2_follow 8 = .ok (.if_icmp .eq 7, 3) := by decide +kernel
theorem dX2_follow_11 : decode cX2_follow 11 = .ok (.iconst 1, 1) := by decide +kernel
theorem dX2_follow_12 : decode cX2_follow 12 = .ok (.goto 4, 3) := by decide +kernel
theorem dX2_follow_15 : decode cX2_follow 15 = .ok (.iconst 0, 1) := by decide +kernel
theorem dX2_follow_16 : decode cX2_follow 16 = .ok (.invokevirtual 63, 3) := by decide +kernel
theorem dX2_follow_19 : decode cX2_follow 19 = .ok (.return_, 1) := by decide +kernel
theorem dX2_taken_0 : decode cX2_taken 0 = .ok (.aload_n 0, 1) := by decide +kernel
theorem dX2_taken_1 : decode cX2_taken 1 = .ok (.dup, 1) := by decide +kernel
theorem dX2_taken_2 : decode cX2_taken 2 = .ok (.getfield 67, 3) := by decide +kernel
theorem dX2_taken_5 : decode cX2_taken 5 = .ok (.iconst 1, 1) := by decide +kernel
theorem dX2_taken_6 : decode cX2_taken 6 = .ok (.iadd, 1) := by decide +kernel
theorem dX2_taken_7 : decode cX2_taken 7 = .ok (.putfield 67, 3) := by decide +kernel
theorem dX2_taken_10 : decode cX2_taken 10 = .ok (.aload_n 0, 1) := by decide +kernel
theorem dX2_taken_11 : decode cX2_taken 11 = .ok (.getfield 13, 3) := by decide +kernel
theorem dX2_taken_14 : decode cX2_taken 14 = .ok (.bipush 8, 2) := by decide +kernel
theorem dX2_taken_16 : decode cX2_taken 16 = .ok (.iload_n 1, 1) := by decide +kernel
theorem dX2_taken_17 : decode cX2_taken 17 = .ok (.imul, 1) := by decide +kernel
theorem dX2_taken_18 : decode cX2_taken 18 = .ok (.iload_n 2, 1) := by decide +kernel
theorem dX2_taken_19 : decode cX2_taken 19 = .ok (.iadd, 1) := by decide +kernel
theorem dX2_taken_20 : decode cX2_taken 20 = .ok (.iconst 0, 1) := by decide +kernel
theorem dX2_taken_21 : decode cX2_taken 21 = .ok (.bastore, 1) := by decide +kernel
theorem dX2_taken_22 : decode cX2_taken 22 = .ok (.aload_n 0, 1) := by decide +kernel
theorem dX2_taken_23 : decode cX2_taken 23 = .ok (.iload_n 1, 1) := by decide +kernel
theorem dX2_taken_24 : decode cX2_taken 24 = .ok (.iconst 4, 1) := by decide +kernel
theorem dX2_taken_25 : decode cX2_taken 25 = .ok (.invokevirtual 45, 3) := by decide +kernel
theorem dX2_taken_28 : decode cX2_taken 28 = .ok (.ifCond .ne 18, 3) := by decide +kernel
theorem dX2_taken_31 : decode cX2_taken 31 = .ok (.aload_n 0, 1) := by decide +kernel
theorem dX2_taken_32 : decode cX2_taken 32 = .ok (.getfield 16, 3) := by decide +kernel
theorem dX2_taken_35 : decode cX2_taken 35 = .ok (.bipush 8, 2) := by decide +kernel
theorem dX2_taken_37 : decode cX2_taken 37 = .ok (.iload_n 1, 1) := by decide +kernel
theorem dX2_taken_38 : decode cX2_taken 38 = .ok (.imul, 1) := by decide +kernel
theorem dX2_taken_39 : decode cX2_taken 39 = .ok (.iload_n 2, 1) := by decide +kernel
theorem dX2_taken_40 : decode cX2_taken 40 = .ok (.iadd, 1) := by decide +kernel
theorem dX2_taken_41 : decode cX2_taken 41 = .ok (.iconst 1, 1) := by decide +kernel
theorem dX2_taken_42 : decode cX2_taken 42 = .ok (.bastore, 1) := by decide +kernel
theorem dX2_taken_43 : decode cX2_taken 43 = .ok (.goto 19, 3) := by decide +kernel
theorem dX2_taken_46 : decode cX2_taken 46 = .ok (.aload_n 0, 1) := by decide +kernel
theorem dX2_taken_47 : decode cX2_taken 47 = .ok (.iload_n 1, 1) := by decide +kernel
theorem dX2_taken_48 : decode cX2_taken 48 = .ok (.iconst 5, 1) := by decide +kernel
theorem dX2_taken_49 : decode cX2_taken 49 = .ok (.invokevirtual 45, 3) := by decide +kernel
theorem dX2_taken_52 : decode cX2_taken 52 = .ok (.ifCond .eq 10, 3) := by decide +kernel
theorem dX2_taken_55 : decode cX2_taken 55 = .ok (.aload_n 0, 1) := by decide +kernel
theorem dX2_taken_56 : decode cX2_taken 56 = .ok (.getfield 22, 3) := by decide +kernel
theorem dX2_taken_59 : decode cX2_taken 59 = .ok (.iload_n 1, 1) := by decide +kernel
theorem dX2_taken_60 : decode cX2_taken 60 = .ok (.iload_n 2, 1) := by decide +kernel
theorem dX2_taken_61 : decode cX2_taken 61 = .ok (.iastore, 1) := by decide +kernel
theorem dX2_taken_62 : decode cX2_taken 62 = .ok (.return_, 1) := by decide +kernel
theorem dX2_line_0 : decode cX2_line 0 = .ok (.aload_n 0, 1) := by decide +kernel
theorem dX2_line_1 : decode cX2_line 1 = .ok (.iload_n 1, 1) := by decide +kernel
theorem dX2_line_2 : decode cX2_line 2 = .ok (.ifCond .lt 18, 3) := by decide +kernel
theorem dX2_line_5 : decode cX2_line 5 = .ok (.iload_n 1, 1) := by decide +kernel
theorem dX2_line_6 : decode cX2_line 6 = .ok (.bipush 16, 2) := by decide +kernel
theorem dX2_line_8 : decode cX2_line 8 = .ok (.if_icmp .ge 12, 3) := by decide +kernel
theorem dX2_line_11 : decode cX2_line 11 = .ok (.iload_n 1, 1) := by decide +kernel
theorem dX2_line_12 : decode cX2_line 12 = .ok (.iconst 2, 1) := by decide +kernel
theorem dX2_line_13 : decode cX2_line 13 = .ok (.if_icmp .eq 7, 3) := by decide +kernel
theorem dX2_line_16 : decode cX2_line 16 = .ok (.iconst 1, 1) := by decide +kernel
theorem dX2_line_17 : decode cX2_line 17 = .ok (.goto 4, 3) := by decide +kernel
theorem dX2_line_20 : decode cX2_line 20 = .ok (.iconst 0, 1) := by decide +kernel
theorem dX2_line_21 : decode cX2_line 21 = .ok (.iconst 1, 1) := by decide +kernel
theorem dX2_line_22 : decode cX2_line 22 = .ok (.invokevirtual 70, 3) := by decide +kernel
theorem dX2_line_25 : decode cX2_line 25 = .ok (.ifCond .ne 5, 3) := by decide +kernel
theorem dX2_line_28 : decode cX2_line 28 = .ok (.iconst 0, 1) := by decide +kernel
theorem dX2_line_29 : decode cX2_line 29 = .ok (.ireturn, 1) := by decide +kernel
theorem dX2_line_30 : decode cX2_line 30 = .ok (.aload_n 0, 1) := by decide +kernel
theorem dX2_line_31 : decode cX2_line 31 = .ok (.getfield 7, 3) := by decide +kernel
theorem dX2_line_34 : decode cX2_line 34 = .ok (.iload_n 1, 1) := by decide +kernel
theorem dX2_line_35 : decode cX2_line 35 = .ok (.baload, 1) := by decide +kernel
theorem dX2_line_36 : decode cX2_line 36 = .ok (.istore_n 3, 1) := by decide +kernel
theorem dX2_line_37 : decode cX2_line 37 = .ok (.aload_n 0, 1) := by decide +kernel
theorem dX2_line_38 : decode cX2_line 38 = .ok (.iload_n 1, 1) := by decide +kernel
theorem dX2_line_39 : decode cX2_line 39 = .ok (.iload_n 2, 1) := by decide +kernel
theorem dX2_line_40 : decode cX2_line 40 = .ok (.invokevirtual 63, 3) := by decide +kernel
theorem dX2_line_43 : decode cX2_line 43 = .ok (.aload_n 0, 1) := by decide +kernel
theorem dX2_line_44 : decode cX2_line 44 = .ok (.invokevirtual 74, 3) := by decide +kernel
theorem dX2_line_47 : decode cX2_line 47 = .ok (.iload_n 3, 1) := by decide +kernel
theorem dX2_line_48 : decode cX2_line 48 = .ok (.iload_n 2, 1) := by decide +kernel
theorem dX2_line_49 : decode cX2_line 49 = .ok (.if_icmp .eq 7, 3) := by decide +kernel
theorem dX2_line_52 : decode cX2_line 52 = .ok (.iconst 1, 1) := by decide +kernel
theorem dX2_line_53 : decode cX2_line 53 = .ok (.goto 4, 3) := by decide +kernel
theorem dX2_line_56 : decode cX2_line 56 = .ok (.iconst 0, 1) := by decide +kernel
theorem dX2_line_57 : decode cX2_line 57 = .ok (.ireturn, 1) := by decide +kernel
theorem dX2_begin_0 : decode cX2_begin 0 = .ok (.iconst 0, 1) := by decide +kernel
theorem dX2_begin_1 : decode cX2_begin 1 = .ok (.istore_n 3, 1) := by decide +kernel
theorem dX2_begin_2 : decode cX2_begin 2 = .ok (.iload_n 3, 1) := by decide +kernel
theorem dX2_begin_3 : decode cX2_begin 3 = .ok (.bipush 8, 2) := by decide +kernel
theorem dX2_begin_5 : decode cX2_begin 5 = .ok (.if_icmp .ge 45, 3) := by decide +kernel
theorem dX2_begin_8 : decode cX2_begin 8 = .ok (.aload_n 0, 1) := by decide +kernel
theorem dX2_begin_9 : decode cX2_begin 9 = .ok (.getfield 19, 3) := by decide +kernel
theorem dX2_begin_12 : decode cX2_begin 12 = .ok (.bipush 8, 2) := by decide +kernel
theorem dX2_begin_14 : decode cX2_begin 14 = .ok (.iload_n 1, 1) := by decide +kernel
theorem dX2_begin_15 : decode cX2_begin 15 = .ok (.imul, 1) := by decide +kernel
theorem dX2_begin_16 : decode cX2_begin 16 = .ok (.iload_n 3, 1) := by decide +kernel
theorem dX2_begin_17 : decode cX2_begin 17 = .ok (.iadd, 1) := by decide +kernel
theorem dX2_begin_18 : decode cX2_begin 18 = .ok (.iconst 0, 1) := by decide +kernel
theorem dX2_begin_19 : decode cX2_begin 19 = .ok (.bastore, 1) := by decide +kernel
theorem dX2_begin_20 : decode cX2_begin 20 = .ok (.aload_n 0, 1) := by decide +kernel
theorem dX2_begin_21 : decode cX2_begin 21 = .ok (.getfield 16, 3) := by decide +kernel
theorem dX2_begin_24 : decode cX2_begin 24 = .ok (.bipush 8, 2) := by decide +kernel
theorem dX2_begin_26 : decode cX2_begin 26 = .ok (.iload_n 1, 1) := by decide +kernel
theorem dX2_begin_27 : decode cX2_begin 27 = .ok (.imul, 1) := by decide +kernel
theorem dX2_begin_28 : decode cX2_begin 28 = .ok (.iload_n 3, 1) := by decide +kernel
theorem dX2_begin_29 : decode cX2_begin 29 = .ok (.iadd, 1) := by decide +kernel
theorem dX2_begin_30 : decode cX2_begin 30 = .ok (.iconst 0, 1) := by decide +kernel
theorem dX2_begin_31 : decode cX2_begin 31 = .ok (.bastore, 1) := by decide +kernel
theorem dX2_begin_32 : decode cX2_begin 32 = .ok (.aload_n 0, 1) := by decide +kernel
theorem dX2_begin_33 : decode cX2_begin 33 = .ok (.getfield 13, 3) := by decide +kernel
theorem dX2_begin_36 : decode cX2_begin 36 = .ok (.bipush 8, 2) := by decide +kernel
theorem dX2_begin_38 : decode cX2_begin 38 = .ok (.iload_n 1, 1) := by decide +kernel
theorem dX2_begin_39 : decode cX2_begin 39 = .ok (.imul, 1) := by decide +kernel
theorem dX2_begin_40 : decode cX2_begin 40 = .ok (.iload_n 3, 1) := by decide +kernel
theorem dX2_begin_41 : decode cX2_begin 41 = .ok (.iadd, 1) := by decide +kernel
theorem dX2_begin_42 : decode cX2_begin 42 = .ok (.iconst 0, 1) := by decide +kernel
theorem dX2_begin_43 : decode cX2_begin 43 = .ok (.bastore, 1) := by decide +kernel
theorem dX2_begin_44 : decode cX2_begin 44 = .ok (.iinc 3 1, 3) := by decide +kernel
theorem dX2_begin_47 : decode cX2_begin 47 = .ok (.goto (-45), 3) := by decide +kernel
theorem dX2_begin_50 : decode cX2_begin 50 = .ok (.iconst 0, 1) := by decide +kernel
theorem dX2_begin_51 : decode cX2_begin 51 = .ok (.istore_n 3, 1) := by decide +kernel
theorem dX2_begin_52 : decode cX2_begin 52 = .ok (.iload_n 3, 1) := by decide +kernel
theorem dX2_begin_53 : decode cX2_begin 53 = .ok (.bipush 7, 2) := by decide +kernel
theorem dX2_begin_55 : decode cX2_begin 55 = .ok (.if_icmp .ge 39, 3) := by decide +kernel
theorem dX2_begin_58 : decode cX2_begin 58 = .ok (.aload_n 0, 1) := by decide +kernel
theorem dX2_begin_59 : decode cX2_begin 59 = .ok (.getfield 35, 3) := by decide +kernel
theorem dX2_begin_62 : decode cX2_begin 62 = .ok (.bipush 7, 2) := by decide +kernel
theorem dX2_begin_64 : decode cX2_begin 64 = .ok (.iload_n 1, 1) := by decide +kernel
theorem dX2_begin_65 : decode cX2_begin 65 = .ok (.imul, 1) := by decide +kernel
theorem dX2_begin_66 : decode cX2_begin 66 = .ok (.iload_n 3, 1) := by decide +kernel
theorem dX2_begin_67 : decode cX2_begin 67 = .ok (.iadd, 1) := by decide +kernel
theorem dX2_begin_68 : decode cX2_begin 68 = .ok (.iload_n 3, 1) := by decide +kernel
theorem dX2_begin_69 : decode cX2_begin 69 = .ok (.iconst 1, 1) := by decide +kernel
theorem dX2_begin_70 : decode cX2_begin 70 = .ok (.if_icmp .ne 16, 3) := by decide +kernel
theorem dX2_begin_73 : decode cX2_begin 73 = .ok (.iload_n 2, 1) := by decide +kernel
theorem dX2_begin_74 : decode cX2_begin 74 = .ok (.iconst 3, 1) := by decide +kernel
theorem dX2_begin_75 : decode cX2_begin 75 = .ok (.ishr, 1) := by decide +kernel
theorem dX2_begin_76 : decode cX2_begin 76 = .ok (.iconst 1, 1) := by decide +kernel
theorem dX2_begin_77 : decode cX2_begin 77 = .ok (.iand, 1) := by decide +kernel
theorem dX2_begin_78 : decode cX2_begin 78 = .ok (.iconst 1, 1) := by decide +kernel
theorem dX2_begin_79 : decode cX2_begin 79 = .ok (.if_icmp .ne 7, 3) := by decide +kernel
theorem dX2_begin_82 : decode cX2_begin 82 = .ok (.iconst 1, 1) := by decide +kernel
theorem dX2_begin_83 : decode cX2_begin 83 = .ok (.goto 4, 3) := by decide +kernel
theorem dX2_begin_86 : decode cX2_begin 86 = .ok (.iconst 0, 1) := by decide +kernel
theorem dX2_begin_87 : decode cX2_begin 87 = .ok (.bastore, 1) := by decide +kernel
theorem dX2_begin_88 : decode cX2_begin 88 = .ok (.iinc 3 1, 3) := by decide +kernel
theorem dX2_begin_91 : decode cX2_begin 91 = .ok (.goto (-39), 3) := by decide +kernel
theorem dX2_begin_94 : decode cX2_begin 94 = .ok (.aload_n 0, 1) := by decide +kernel
theorem dX2_begin_95 : decode cX2_begin 95 = .ok (.getfield 22, 3) := by decide +kernel
theorem dX2_begin_98 : decode cX2_begin 98 = .ok (.iload_n 1, 1) := by decide +kernel
theorem dX2_begin_99 : decode cX2_begin 99 = .ok (.bipush 7, 2) := by decide +kernel
theorem dX2_begin_101 : decode cX2_begin 101 = .ok (.iastore, 1) := by decide +kernel
theorem dX2_begin_102 : decode cX2_begin 102 = .ok (.aload_n 0, 1) := by decide +kernel
theorem dX2_begin_103 : decode cX2_begin 103 = .ok (.getfield 32, 3) := by decide +kernel
theorem dX2_begin_106 : decode cX2_begin 106 = .ok (.iload_n 1, 1) := by decide +kernel
theorem dX2_begin_107 : decode cX2_begin 107 = .ok (.iconst 0, 1) := by decide +kernel
theorem dX2_begin_108 : decode cX2_begin 108 = .ok (.iastore, 1) := by decide +kernel
theorem dX2_begin_109 : decode cX2_begin 109 = .ok (.aload_n 0, 1) := by decide +kernel
theorem dX2_begin_110 : decode cX2_begin 110 = .ok (.getfield 29, 3) := by decide +kernel
theorem dX2_begin_113 : decode cX2_begin 113 = .ok (.iload_n 1, 1) := by decide +kernel
theorem dX2_begin_114 : decode cX2_begin 114 = .ok (.iconst 2, 1) := by decide +kernel
theorem dX2_begin_115 : decode cX2_begin 115 = .ok (.iastore, 1) := by decide +kernel
theorem dX2_begin_116 : decode cX2_begin 116 = .ok (.aload_n 0, 1) := by decide +kernel
theorem dX2_begin_117 : decode cX2_begin 117 = .ok (.getfield 38, 3) := by decide +kernel
theorem dX2_begin_120 : decode cX2_begin 120 = .ok (.iload_n 1, 1) := by decide +kernel
theorem dX2_begin_121 : decode cX2_begin 121 = .ok (.iload_n 2, 1) := by decide +kernel
theorem dX2_begin_122 : decode cX2_begin 122 = .ok (.iconst 1, 1) := by decide +kernel
theorem dX2_begin_123 : decode cX2_begin 123 = .ok (.iand, 1) := by decide +kernel
theorem dX2_begin_124 : decode cX2_begin 124 = .ok (.iconst 1, 1) := by decide +kernel
theorem dX2_begin_125 : decode cX2_begin 125 = .ok (.if_icmp .ne 7, 3) := by decide +kernel
theorem dX2_begin_128 : decode cX2_begin 128 = .ok (.iconst 1, 1) := by decide +kernel
theorem dX2_begin_129 : decode cX2_begin 129 = .ok (.goto 4, 3) := by decide +kernel
theorem dX2_begin_132 : decode cX2_begin 132 = .ok (.iconst 0, 1) := by decide +kernel
theorem dX2_begin_133 : decode cX2_begin 133 = .ok (.bastore, 1) := by decide +kernel
theorem dX2_begin_134 : decode cX2_begin 134 = .ok (.return_, 1) := by decide +kernel
theorem dX2_second_0 : decode cX2_second 0 = .ok (.aload_n 0, 1) := by decide +kernel
theorem dX2_second_1 : decode cX2_second 1 = .ok (.getfield 29, 3) := by decide +kernel
theorem dX2_second_4 : decode cX2_second 4 = .ok (.iload_n 1, 1) := by decide +kernel
theorem dX2_second_5 : decode cX2_second 5 = .ok (.iaload, 1) := by decide +kernel
theorem dX2_second_6 : decode cX2_second 6 = .ok (.iconst 2, 1) := by decide +kernel
theorem dX2_second_7 : decode cX2_second 7 = .ok (.if_icmp .ne 25, 3) := by decide +kernel
theorem dX2_second_10 : decode cX2_second 10 = .ok (.aload_n 0, 1) := by decide +kernel
theorem dX2_second_11 : decode cX2_second 11 = .ok (.getfield 26, 3) := by decide +kernel
theorem dX2_second_14 : decode cX2_second 14 = .ok (.iload_n 1, 1) := by decide +kernel
theorem dX2_second_15 : decode cX2_second 15 = .ok (.iload_n 2, 1) := by decide +kernel
theorem dX2_second_16 : decode cX2_second 16 = .ok (.iload_n 2, 1) := by decide +kernel
theorem dX2_second_17 : decode cX2_second 17 = .ok (.bipush 8, 2) := by decide +kernel
theorem dX2_second_19 : decode cX2_second 19 = .ok (.irem, 1) := by decide +kernel
theorem dX2_second_20 : decode cX2_second 20 = .ok (.isub, 1) := by decide +kernel
theorem dX2_second_21 : decode cX2_second 21 = .ok (.iastore, 1) := by decide +kernel
theorem dX2_second_22 : decode cX2_second 22 = .ok (.aload_n 0, 1) := by decide +kernel
theorem dX2_second_23 : decode cX2_second 23 = .ok (.getfield 29, 3) := by decide +kernel
theorem dX2_second_26 : decode cX2_second 26 = .ok (.iload_n 1, 1) := by decide +kernel
theorem dX2_second_27 : decode cX2_second 27 = .ok (.iconst 3, 1) := by decide +kernel
theorem dX2_second_28 : decode cX2_second 28 = .ok (.iastore, 1) := by decide +kernel
theorem dX2_second_29 : decode cX2_second 29 = .ok (.goto 178, 3) := by decide +kernel
theorem dX2_second_32 : decode cX2_second 32 = .ok (.aload_n 0, 1) := by decide +kernel
theorem dX2_second_33 : decode cX2_second 33 = .ok (.getfield 29, 3) := by decide +kernel
theorem dX2_second_36 : decode cX2_second 36 = .ok (.iload_n 1, 1) := by decide +kernel
theorem dX2_second_37 : decode cX2_second 37 = .ok (.iaload, 1) := by decide +kernel
theorem dX2_second_38 : decode cX2_second 38 = .ok (.iconst 3, 1) := by decide +kernel
theorem dX2_second_39 : decode cX2_second 39 = .ok (.if_icmp .ne 49, 3) := by decide +kernel
theorem dX2_second_42 : decode cX2_second 42 = .ok (.aload_n 0, 1) := by decide +kernel
theorem dX2_second_43 : decode cX2_second 43 = .ok (.getfield 29, 3) := by decide +kernel
theorem dX2_second_46 : decode cX2_second 46 = .ok (.iload_n 1, 1) := by decide +kernel
theorem dX2_second_47 : decode cX2_second 47 = .ok (.aload_n 0, 1) := by decide +kernel
theorem dX2_second_48 : decode cX2_second 48 = .ok (.getfield 38, 3) := by decide +kernel
theorem dX2_second_51 : decode cX2_second 51 = .ok (.iload_n 1, 1) := by decide +kernel
theorem dX2_second_52 : decode cX2_second 52 = .ok (.baload, 1) := by decide +kernel
theorem dX2_second_53 : decode cX2_second 53 = .ok (.ifCond .eq 7, 3) := by decide +kernel
theorem dX2_second_56 : decode cX2_second 56 = .ok (.iconst 4, 1) := by decide +kernel
theorem dX2_second_57 : decode cX2_second 57 = .ok (.goto 4, 3) := by decide +kernel
theorem dX2_second_60 : decode cX2_second 60 = .ok (.iconst 0, 1) := by decide +kernel
theorem dX2_second_61 : decode cX2_second 61 = .ok (.iastore, 1) := by decide +kernel
theorem dX2_second_62 : decode cX2_second 62 = .ok (.aload_n 0, 1) := by decide +kernel
theorem dX2_second_63 : decode cX2_second 63 = .ok (.getfield 35, 3) := by decide +kernel
theorem dX2_second_66 : decode cX2_second 66 = .ok (.bipush 7, 2) := by decide +kernel
theorem dX2_second_68 : decode cX2_second 68 = .ok (.iload_n 1, 1) := by decide +kernel
theorem dX2_second_69 : decode cX2_second 69 = .ok (.imul, 1) := by decide +kernel
theorem dX2_second_70 : decode cX2_second 70 = .ok (.aload_n 0, 1) := by decide +kernel
theorem dX2_second_71 : decode cX2_second 71 = .ok (.getfield 38, 3) := by decide +kernel
theorem dX2_second_74 : decode cX2_second 74 = .ok (.iload_n 1, 1) := by decide +kernel
theorem dX2_second_75 : decode cX2_second 75 = .ok (.baload, 1) := by decide +kernel
theorem dX2_second_76 : decode cX2_second 76 = .ok (.ifCond .ne 7, 3) := by decide +kernel
theorem dX2_second_79 : decode cX2_second 79 = .ok (.iconst 1, 1) := by decide +kernel
theorem dX2_second_80 : decode cX2_second 80 = .ok (.goto 4, 3) := by decide +kernel
theorem dX2_second_83 : decode cX2_second 83 = .ok (.iconst 0, 1) := by decide +kernel
theorem dX2_second_84 : decode cX2_second 84 = .ok (.bastore, 1) := by decide +kernel
theorem dX2_second_85 : decode cX2_second 85 = .ok (.goto 122, 3) := by decide +kernel
theorem dX2_second_88 : decode cX2_second 88 = .ok (.aload_n 0, 1) := by decide +kernel
theorem dX2_second_89 : decode cX2_second 89 = .ok (.getfield 29, 3) := by decide +kernel
theorem dX2_second_92 : decode cX2_second 92 = .ok (.iload_n 1, 1) := by decide +kernel
theorem dX2_second_93 : decode cX2_second 93 = .ok (.iaload, 1) := by decide +kernel
theorem dX2_second_94 : decode cX2_second 94 = .ok (.iconst 4, 1) := by decide +kernel
theorem dX2_second_95 : decode cX2_second 95 = .ok (.if_icmp .ne 73, 3) := by decide +kernel
theorem dX2_second_98 : decode cX2_second 98 = .ok (.aload_n 0, 1) := by decide +kernel
theorem dX2_second_99 : decode cX2_second 99 = .ok (.getfield 35, 3) := by decide +kernel
theorem dX2_second_102 : decode cX2_second 102 = .ok (.bipush 7, 2) := by decide +kernel
theorem dX2_second_104 : decode cX2_second 104 = .ok (.iload_n 1, 1) := by decide +kernel
theorem dX2_second_105 : decode cX2_second 105 = .ok (.imul, 1) := by decide +kernel
theorem dX2_second_106 : decode cX2_second 106 = .ok (.iconst 4, 1) := by decide +kernel
theorem dX2_second_107 : decode cX2_second 107 = .ok (.iadd, 1) := by decide +kernel
theorem dX2_second_108 : decode cX2_second 108 = .ok (.iload_n 2, 1) := by decide +kernel
theorem dX2_second_109 : decode cX2_second 109 = .ok (.iconst 1, 1) := by decide +kernel
theorem dX2_second_110 : decode cX2_second 110 = .ok (.ishr, 1) := by decide +kernel
theorem dX2_second_111 : decode cX2_second 111 = .ok (.iconst 1, 1) := by decide +kernel
theorem dX2_second_112 : decode cX2_second 112 = .ok (.iand, 1) := by decide +kernel
theorem dX2_second_113 : decode cX2_second 113 = .ok (.iconst 1, 1) := by decide +kernel
theorem dX2_second_114 : decode cX2_second 114 = .ok (.if_icmp .ne 7, 3) := by decide +kernel
theorem dX2_second_117 : decode cX2_second 117 = .ok (.iconst 1, 1) := by decide +kernel
theorem dX2_second_118 : decode cX2_second 118 = .ok (.goto 4, 3) := by decide +kernel
theorem dX2_second_121 : decode cX2_second 121 = .ok (.iconst 0, 1) := by decide +kernel
theorem dX2_second_122 : decode cX2_second 122 = .ok (.bastore, 1) := by decide +kernel
theorem dX2_second_123 : decode cX2_second 123 = .ok (.aload_n 0, 1) := by decide +kernel
theorem dX2_second_124 : decode cX2_second 124 = .ok (.getfield 35, 3) := by decide +kernel
theorem dX2_second_127 : decode cX2_second 127 = .ok (.bipush 7, 2) := by decide +kernel
theorem dX2_second_129 : decode cX2_second 129 = .ok (.iload_n 1, 1) := by decide +kernel
theorem dX2_second_130 : decode cX2_second 130 = .ok (.imul, 1) := by decide +kernel
theorem dX2_second_131 : decode cX2_second 131 = .ok (.iconst 3, 1) := by decide +kernel
theorem dX2_second_132 : decode cX2_second 132 = .ok (.iadd, 1) := by decide +kernel
theorem dX2_second_133 : decode cX2_second 133 = .ok (.iload_n 2, 1) := by decide +kernel
theorem dX2_second_134 : decode cX2_second 134 = .ok (.iconst 4, 1) := by decide +kernel
theorem dX2_second_135 : decode cX2_second 135 = .ok (.ishr, 1) := by decide +kernel
theorem dX2_second_136 : decode cX2_second 136 = .ok (.iconst 1, 1) := by decide +kernel
theorem dX2_second_137 : decode cX2_second 137 = .ok (.iand, 1) := by decide +kernel
theorem dX2_second_138 : decode cX2_second 138 = .ok (.iconst 1, 1) := by decide +kernel
theorem dX2_second_139 : decode cX2_second 139 = .ok (.if_icmp .ne 7, 3) := by decide +kernel
theorem dX2_second_142 : decode cX2_second 142 = .ok (.iconst 1, 1) := by decide +kernel
theorem dX2_second_143 : decode cX2_second 143 = .ok (.goto 4, 3) := by decide +kernel
theorem dX2_second_146 : decode cX2_second 146 = .ok (.iconst 0, 1) := by decide +kernel
theorem dX2_second_147 : decode cX2_second 147 = .ok (.bastore, 1) := by decide +kernel
theorem dX2_second_148 : decode cX2_second 148 = .ok (.aload_n 0, 1) := by decide +kernel
theorem dX2_second_149 : decode cX2_second 149 = .ok (.getfield 29, 3) := by decide +kernel
theorem dX2_second_152 : decode cX2_second 152 = .ok (.iload_n 1, 1) := by decide +kernel
theorem dX2_second_153 : decode cX2_second 153 = .ok (.iconst 0, 1) := by decide +kernel
theorem dX2_second_154 : decode cX2_second 154 = .ok (.iastore, 1) := by decide +kernel
theorem dX2_second_155 : decode cX2_second 155 = .ok (.aload_n 0, 1) := by decide +kernel
theorem dX2_second_156 : decode cX2_second 156 = .ok (.getfield 35, 3) := by decide +kernel
theorem dX2_second_159 : decode cX2_second 159 = .ok (.bipush 7, 2) := by decide +kernel
theorem dX2_second_161 : decode cX2_second 161 = .ok (.iload_n 1, 1) := by decide +kernel
theorem dX2_second_162 : decode cX2_second 162 = .ok (.imul, 1) := by decide +kernel
theorem dX2_second_163 : decode cX2_second 163 = .ok (.iconst 1, 1) := by decide +kernel
theorem dX2_second_164 : decode cX2_second 164 = .ok (.bastore, 1) := by decide +kernel
theorem dX2_second_165 : decode cX2_second 165 = .ok (.goto 42, 3) := by decide +kernel
theorem dX2_second_168 : decode cX2_second 168 = .ok (.iconst 0, 1) := by decide +kernel
theorem dX2_second_169 : decode cX2_second 169 = .ok (.istore_n 3, 1) := by decide +kernel
theorem dX2_second_170 : decode cX2_second 170 = .ok (.iload_n 3, 1) := by decide +kernel
theorem dX2_second_171 : decode cX2_second 171 = .ok (.bipush 8, 2) := by decide +kernel
theorem dX2_second_173 : decode cX2_second 173 = .ok (.if_icmp .ge 34, 3) := by decide +kernel
theorem dX2_second_176 : decode cX2_second 176 = .ok (.aload_n 0, 1) := by decide +kernel
theorem dX2_second_177 : decode cX2_second 177 = .ok (.getfield 19, 3) := by decide +kernel
theorem dX2_second_180 : decode cX2_second 180 = .ok (.bipush 8, 2) := by decide +kernel
theorem dX2_second_182 : decode cX2_second 182 = .ok (.iload_n 1, 1) := by decide +kernel
theorem dX2_second_183 : decode cX2_second 183 = .ok (.imul, 1) := by decide +kernel
theorem dX2_second_184 : decode cX2_second 184 = .ok (.iload_n 3, 1) := by decide +kernel
theorem dX2_second_185 : decode cX2_second 185 = .ok (.iadd, 1) := by decide +kernel
theorem dX2_second_186 : decode cX2_second 186 = .ok (.iload_n 2, 1) := by decide +kernel
theorem dX2_second_187 : decode cX2_second 187 = .ok (.iload_n 3, 1) := by decide +kernel
theorem dX2_second_188 : decode cX2_second 188 = .ok (.ishr, 1) := by decide +kernel
theorem dX2_second_189 : decode cX2_second 189 = .ok (.iconst 1, 1) := by decide +kernel
theorem dX2_second_190 : decode cX2_second 190 = .ok (.iand, 1) := by decide +kernel
theorem dX2_second_191 : decode cX2_second 191 = .ok (.iconst 1, 1) := by decide +kernel
theorem dX2_second_192 : decode cX2_second 192 = .ok (.if_icmp .ne 7, 3) := by decide +kernel
theorem dX2_second_195 : decode cX2_second 195 = .ok (.iconst 1, 1) := by decide +kernel
theorem dX2_second_196 : decode cX2_second 196 = .ok (.goto 4, 3) := by decide +kernel
theorem dX2_second_199 : decode cX2_second 199 = .ok (.iconst 0, 1) := by decide +kernel
theorem dX2_second_200 : decode cX2_second 200 = .ok (.bastore, 1) := by decide +kernel
theorem dX2_second_201 : decode cX2_second 201 = .ok (.iinc 3 1, 3) := by decide +kernel
theorem dX2_second_204 : decode cX2_second 204 = .ok (.goto (-34), 3) := by decide +kernel
theorem dX2_second_207 : decode cX2_second 207 = .ok (.return_, 1) := by decide +kernel
theorem dX2_highest_0 : decode cX2_highest 0 = .ok (.iconst 0, 1) := by decide +kernel
theorem dX2_highest_1 : decode cX2_highest 1 = .ok (.istore_n 2, 1) := by decide +kernel
theorem dX2_highest_2 : decode cX2_highest 2 = .ok (.iload_n 2, 1) := by decide +kernel
theorem dX2_highest_3 : decode cX2_highest 3 = .ok (.bipush 8, 2) := by decide +kernel
theorem dX2_highest_5 : decode cX2_highest 5 = .ok (.if_icmp .ge 30, 3) := by decide +kernel
theorem dX2_highest_8 : decode cX2_highest 8 = .ok (.aload_n 0, 1) := by decide +kernel
theorem dX2_highest_9 : decode cX2_highest 9 = .ok (.iload_n 1, 1) := by decide +kernel
theorem dX2_highest_10 : decode cX2_highest 10 = .ok (.aload_n 0, 1) := by decide +kernel
theorem dX2_highest_11 : decode cX2_highest 11 = .ok (.iload_n 1, 1) := by decide +kernel
theorem dX2_highest_12 : decode cX2_highest 12 = .ok (.iload_n 2, 1) := by decide +kernel
theorem dX2_highest_13 : decode cX2_highest 13 = .ok (.invokevirtual 49, 3) := by decide +kernel
theorem dX2_highest_16 : decode cX2_highest 16 = .ok (.invokevirtual 53, 3) := by decide +kernel
theorem dX2_highest_19 : decode cX2_highest 19 = .ok (.ifCond .eq 10, 3) := by decide +kernel
theorem dX2_highest_22 : decode cX2_highest 22 = .ok (.aload_n 0, 1) := by decide +kernel
theorem dX2_highest_23 : decode cX2_highest 23 = .ok (.iload_n 1, 1) := by decide +kernel
theorem dX2_highest_24 : decode cX2_highest 24 = .ok (.iload_n 2, 1) := by decide +kernel
theorem dX2_highest_25 : decode cX2_highest 25 = .ok (.invokevirtual 49, 3) := by decide +kernel
theorem dX2_highest_28 : decode cX2_highest 28 = .ok (.ireturn, 1) := by decide +kernel
theorem dX2_highest_29 : decode cX2_highest 29 = .ok (.iinc 2 1, 3) := by decide +kernel
theorem dX2_highest_32 : decode cX2_highest 32 = .ok (.goto (-30), 3) := by decide +kernel
theorem dX2_highest_35 : decode cX2_highest 35 = .ok (.iconst (-1), 1) := by decide +kernel
theorem dX2_highest_36 : decode cX2_highest 36 = .ok (.ireturn, 1) := by decide +kernel
theorem dX2_end_0 : decode cX2_end 0 = .ok (.iload_n 2, 1) := by decide +kernel
theorem dX2_end_1 : decode cX2_end 1 = .ok (.iconst 1, 1) := by decide +kernel
theorem dX2_end_2 : decode cX2_end 2 = .ok (.if_icmp .eq 8, 3) := by decide +kernel
theorem dX2_end_5 : decode cX2_end 5 = .ok (.iload_n 2, 1) := by decide +kernel
theorem dX2_end_6 : decode cX2_end 6 = .ok (.iconst 5, 1) := by decide +kernel
theorem dX2_end_7 : decode cX2_end 7 = .ok (.if_icmp .ne 11, 3) := by decide +kernel
theorem dX2_end_10 : decode cX2_end 10 = .ok (.aload_n 0, 1) := by decide +kernel
theorem dX2_end_11 : decode cX2_end 11 = .ok (.iload_n 1, 1) := by decide +kernel
theorem dX2_end_12 : decode cX2_end 12 = .ok (.invokevirtual 77, 3) := by decide +kernel
theorem dX2_end_15 : decode cX2_end 15 = .ok (.goto 4, 3) := by decide +kernel
theorem dX2_end_18 : decode cX2_end 18 = .ok (.iload_n 3, 1) := by decide +kernel
theorem dX2_end_19 : decode cX2_end 19 = .ok (.istore 4, 2) := by decide +kernel
theorem dX2_end_21 : decode cX2_end 21 = .ok (.iload 4, 2) := by decide +kernel
theorem dX2_end_23 : decode cX2_end 23 = .ok (.iconst (-1), 1) := by decide +kernel
theorem dX2_end_24 : decode cX2_end 24 = .ok (.if_icmp .ne 4, 3) := by decide +kernel
theorem dX2_end_27 : decode cX2_end 27 = .ok (.return_, 1) := by decide +kernel
theorem dX2_end_28 : decode cX2_end 28 = .ok (.aload_n 0, 1) := by decide +kernel
theorem dX2_end_29 : decode cX2_end 29 = .ok (.aload_n 0, 1) := by decide +kernel
theorem dX2_end_30 : decode cX2_end 30 = .ok (.getfield 16, 3) := by decide +kernel
theorem dX2_end_33 : decode cX2_end 33 = .ok (.bipush 8, 2) := by decide +kernel
theorem dX2_end_35 : decode cX2_end 35 = .ok (.iload_n 1, 1) := by decide +kernel
theorem dX2_end_36 : decode cX2_end 36 = .ok (.imul, 1) := by decide +kernel
theorem dX2_end_37 : decode cX2_end 37 = .ok (.iload 4, 2) := by decide +kernel
theorem dX2_end_39 : decode cX2_end 39 = .ok (.iadd, 1) := by decide +kernel
theorem dX2_end_40 : decode cX2_end 40 = .ok (.baload, 1) := by decide +kernel
theorem dX2_end_41 : decode cX2_end 41 = .ok (.ifCond .eq 12, 3) := by decide +kernel
theorem dX2_end_44 : decode cX2_end 44 = .ok (.aload_n 0, 1) := by decide +kernel
theorem dX2_end_45 : decode cX2_end 45 = .ok (.getfield 80, 3) := by decide +kernel
theorem dX2_end_48 : decode cX2_end 48 = .ok (.iconst 1, 1) := by decide +kernel
theorem dX2_end_49 : decode cX2_end 49 = .ok (.iadd, 1) := by decide +kernel
theorem dX2_end_50 : decode cX2_end 50 = .ok (.goto 7, 3) := by decide +kernel
theorem dX2_end_53 : decode cX2_end 53 = .ok (.aload_n 0, 1) := by decide +kernel
theorem dX2_end_54 : decode cX2_end 54 = .ok (.getfield 80, 3) := by decide +kernel
theorem dX2_end_57 : decode cX2_end 57 = .ok (.putfield 80, 3) := by decide +kernel
theorem dX2_end_60 : decode cX2_end 60 = .ok (.aload_n 0, 1) := by decide +kernel
theorem dX2_end_61 : decode cX2_end 61 = .ok (.getfield 16, 3) := by decide +kernel
theorem dX2_end_64 : decode cX2_end 64 = .ok (.bipush 8, 2) := by decide +kernel
theorem dX2_end_66 : decode cX2_end 66 = .ok (.iload_n 1, 1) := by decide +kernel
theorem dX2_end_67 : decode cX2_end 67 = .ok (.imul, 1) := by decide +kernel
theorem dX2_end_68 : decode cX2_end 68 = .ok (.iload 4, 2) := by decide +kernel
theorem dX2_end_70 : decode cX2_end 70 = .ok (.iadd, 1) := by decide +kernel
theorem dX2_end_71 : decode cX2_end 71 = .ok (.iconst 0, 1) := by decide +kernel
theorem dX2_end_72 : decode cX2_end 72 = .ok (.bastore, 1) := by decide +kernel
theorem dX2_end_73 : decode cX2_end 73 = .ok (.aload_n 0, 1) := by decide +kernel
theorem dX2_end_74 : decode cX2_end 74 = .ok (.getfield 22, 3) := by decide +kernel
theorem dX2_end_77 : decode cX2_end 77 = .ok (.iload_n 1, 1) := by decide +kernel
theorem dX2_end_78 : decode cX2_end 78 = .ok (.iload_n 2, 1) := by decide +kernel
theorem dX2_end_79 : decode cX2_end 79 = .ok (.iconst 3, 1) := by decide +kernel
theorem dX2_end_80 : decode cX2_end 80 = .ok (.if_icmp .le 8, 3) := by decide +kernel
theorem dX2_end_83 : decode cX2_end 83 = .ok (.iload 4, 2) := by decide +kernel
theorem dX2_end_85 : decode cX2_end 85 = .ok (.goto 9, 3) := by decide +kernel
theorem dX2_end_88 : decode cX2_end 88 = .ok (.aload_n 0, 1) := by decide +kernel
theorem dX2_end_89 : decode cX2_end 89 = .ok (.getfield 22, 3) := by decide +kernel
theorem dX2_end_92 : decode cX2_end 92 = .ok (.iload_n 1, 1) := by decide +kernel
theorem dX2_end_93 : decode cX2_end 93 = .ok (.iaload, 1) := by decide +kernel
theorem dX2_end_94 : decode cX2_end 94 = .ok (.iastore, 1) := by decide +kernel
theorem dX2_end_95 : decode cX2_end 95 = .ok (.return_, 1) := by decide +kernel
theorem dX2_order_0 : decode cX2_order 0 = .ok (.iload_n 2, 1) := by decide +kernel
theorem dX2_order_1 : decode cX2_order 1 = .ok (.iconst 5, 1) := by decide +kernel
theorem dX2_order_2 : decode cX2_order 2 = .ok (.ishr, 1) := by decide +kernel
theorem dX2_order_3 : decode cX2_order 3 = .ok (.istore_n 3, 1) := by decide +kernel
theorem dX2_order_4 : decode cX2_order 4 = .ok (.iload_n 3, 1) := by decide +kernel
theorem dX2_order_5 : decode cX2_order 5 = .ok (.iconst 2, 1) := by decide +kernel
theorem dX2_order_6 : decode cX2_order 6 = .ok (.irem, 1) := by decide +kernel
theorem dX2_order_7 : decode cX2_order 7 = .ok (.iconst 1, 1) := by decide +kernel
theorem dX2_order_8 : decode cX2_order 8 = .ok (.if_icmp .ne 16, 3) := by decide +kernel
theorem dX2_order_11 : decode cX2_order 11 = .ok (.aload_n 0, 1) := by decide +kernel
theorem dX2_order_12 : decode cX2_order 12 = .ok (.iload_n 1, 1) := by decide +kernel
theorem dX2_order_13 : decode cX2_order 13 = .ok (.iload_n 3, 1) := by decide +kernel
theorem dX2_order_14 : decode cX2_order 14 = .ok (.iload_n 2, 1) := by decide +kernel
theorem dX2_order_15 : decode cX2_order 15 = .ok (.bipush 8, 2) := by decide +kernel
theorem dX2_order_17 : decode cX2_order 17 = .ok (.irem, 1) := by decide +kernel
theorem dX2_order_18 : decode cX2_order 18 = .ok (.invokevirtual 83, 3) := by decide +kernel
theorem dX2_order_21 : decode cX2_order 21 = .ok (.goto 48, 3) := by decide +kernel
theorem dX2_order_24 : decode cX2_order 24 = .ok (.iload_n 3, 1) := by decide +kernel
theorem dX2_order_25 : decode cX2_order 25 = .ok (.bipush 6, 2) := by decide +kernel
theorem dX2_order_27 : decode cX2_order 27 = .ok (.if_icmp .ne 16, 3) := by decide +kernel
theorem dX2_order_30 : decode cX2_order 30 = .ok (.aload_n 0, 1) := by decide +kernel
theorem dX2_order_31 : decode cX2_order 31 = .ok (.getfield 22, 3) := by decide +kernel
theorem dX2_order_34 : decode cX2_order 34 = .ok (.iload_n 1, 1) := by decide +kernel
theorem dX2_order_35 : decode cX2_order 35 = .ok (.iload_n 2, 1) := by decide +kernel
theorem dX2_order_36 : decode cX2_order 36 = .ok (.bipush 8, 2) := by decide +kernel
theorem dX2_order_38 : decode cX2_order 38 = .ok (.irem, 1) := by decide +kernel
theorem dX2_order_39 : decode cX2_order 39 = .ok (.iastore, 1) := by decide +kernel
theorem dX2_order_40 : decode cX2_order 40 = .ok (.goto 29, 3) := by decide +kernel
theorem dX2_order_43 : decode cX2_order 43 = .ok (.iload_n 3, 1) := by decide +kernel
theorem dX2_order_44 : decode cX2_order 44 = .ok (.iconst 2, 1) := by decide +kernel
theorem dX2_order_45 : decode cX2_order 45 = .ok (.if_icmp .eq 24, 3) := by decide +kernel
theorem dX2_order_48 : decode cX2_order 48 = .ok (.aload_n 0, 1) := by decide +kernel
theorem dX2_order_49 : decode cX2_order 49 = .ok (.getfield 35, 3) := by decide +kernel
theorem dX2_order_52 : decode cX2_order 52 = .ok (.bipush 7, 2) := by decide +kernel
theorem dX2_order_54 : decode cX2_order 54 = .ok (.iload_n 1, 1) := by decide +kernel
theorem dX2_order_55 : decode cX2_order 55 = .ok (.imul, 1) := by decide +kernel
theorem dX2_order_56 : decode cX2_order 56 = .ok (.iconst 5, 1) := by decide +kernel
theorem dX2_order_57 : decode cX2_order 57 = .ok (.iadd, 1) := by decide +kernel
theorem dX2_order_58 : decode cX2_order 58 = .ok (.iload_n 3, 1) := by decide +kernel
theorem dX2_order_59 : decode cX2_order 59 = .ok (.iconst 4, 1) := by decide +kernel
theorem dX2_order_60 : decode cX2_order 60 = .ok (.if_icmp .ne 7, 3) := by decide +kernel
theorem dX2_order_63 : decode cX2_order 63 = .ok (.iconst 1, 1) := by decide +kernel
theorem dX2_order_64 : decode cX2_order 64 = .ok (.goto 4, 3) := by decide +kernel
theorem dX2_order_67 : decode cX2_order 67 = .ok (.iconst 0, 1) := by decide +kernel
theorem dX2_order_68 : decode cX2_order 68 = .ok (.bastore, 1) := by decide +kernel
theorem dX2_order_69 : decode cX2_order 69 = .ok (.return_, 1) := by decide +kernel
theorem dX2_set_0 : decode cX2_set 0 = .ok (.iload_n 2, 1) := by decide +kernel
theorem dX2_set_1 : decode cX2_set 1 = .ok (.iconst 5, 1) := by decide +kernel
theorem dX2_set_2 : decode cX2_set 2 = .ok (.ishr, 1) := by decide +kernel
theorem dX2_set_3 : decode cX2_set 3 = .ok (.iconst 3, 1) := by decide +kernel
theorem dX2_set_4 : decode cX2_set 4 = .ok (.iand, 1) := by decide +kernel
theorem dX2_set_5 : decode cX2_set 5 = .ok (.istore_n 3, 1) := by decide +kernel
theorem dX2_set_6 : decode cX2_set 6 = .ok (.aload_n 0, 1) := by decide +kernel
theorem dX2_set_7 : decode cX2_set 7 = .ok (.getfield 35, 3) := by decide +kernel
theorem dX2_set_10 : decode cX2_set 10 = .ok (.bipush 7, 2) := by decide +kernel
theorem dX2_set_12 : decode cX2_set 12 = .ok (.iload_n 1, 1) := by decide +kernel
theorem dX2_set_13 : decode cX2_set 13 = .ok (.imul, 1) := by decide +kernel
theorem dX2_set_14 : decode cX2_set 14 = .ok (.iconst 2, 1) := by decide +kernel
theorem dX2_set_15 : decode cX2_set 15 = .ok (.iadd, 1) := by decide +kernel
theorem dX2_set_16 : decode cX2_set 16 = .ok (.iload_n 3, 1) := by decide +kernel
theorem dX2_set_17 : decode cX2_set 17 = .ok (.iconst 3, 1) := by decide +kernel
theorem dX2_set_18 : decode cX2_set 18 = .ok (.if_icmp .eq 17, 3) := by decide +kernel
theorem dX2_set_21 : decode cX2_set 21 = .ok (.iload_n 3, 1) := by decide +kernel
theorem dX2_set_22 : decode cX2_set 22 = .ok (.iconst 2, 1) := by decide +kernel
theorem dX2_set_23 : decode cX2_set 23 = .ok (.if_icmp .eq 16, 3) := by decide +kernel
theorem dX2_set_26 : decode cX2_set 26 = .ok (.aload_n 0, 1) := by decide +kernel
theorem dX2_set_27 : decode cX2_set 27 = .ok (.iload_n 1, 1) := by decide +kernel
theorem dX2_set_28 : decode cX2_set 28 = .ok (.iconst 2, 1) := by decide +kernel
theorem dX2_set_29 : decode cX2_set 29 = .ok (.invokevirtual 45, 3) := by decide +kernel
theorem dX2_set_32 : decode cX2_set 32 = .ok (.ifCond .eq 7, 3) := by decide +kernel
theorem dX2_set_35 : decode cX2_set 35 = .ok (.iconst 1, 1) := by decide +kernel
theorem dX2_set_36 : decode cX2_set 36 = .ok (.goto 4, 3) := by decide +kernel
theorem dX2_set_39 : decode cX2_set 39 = .ok (.iconst 0, 1) := by decide +kernel
theorem dX2_set_40 : decode cX2_set 40 = .ok (.bastore, 1) := by decide +kernel
theorem dX2_set_41 : decode cX2_set 41 = .ok (.aload_n 0, 1) := by decide +kernel
theorem dX2_set_42 : decode cX2_set 42 = .ok (.getfield 35, 3) := by decide +kernel
theorem dX2_set_45 : decode cX2_set 45 = .ok (.bipush 7, 2) := by decide +kernel
theorem dX2_set_47 : decode cX2_set 47 = .ok (.iload_n 1, 1) := by decide +kernel
theorem dX2_set_48 : decode cX2_set 48 = .ok (.imul, 1) := by decide +kernel
theorem dX2_set_49 : decode cX2_set 49 = .ok (.bipush 6, 2) := by decide +kernel
theorem dX2_set_51 : decode cX2_set 51 = .ok (.iadd, 1) := by decide +kernel
theorem dX2_set_52 : decode cX2_set 52 = .ok (.aload_n 0, 1) := by decide +kernel
theorem dX2_set_53 : decode cX2_set 53 = .ok (.iload_n 1, 1) := by decide +kernel
theorem dX2_set_54 : decode cX2_set 54 = .ok (.bipush 6, 2) := by decide +kernel
theorem dX2_set_56 : decode cX2_set 56 = .ok (.invokevirtual 45, 3) := by decide +kernel
theorem dX2_set_59 : decode cX2_set 59 = .ok (.ifCond .ne 12, 3) := by decide +kernel
theorem dX2_set_62 : decode cX2_set 62 = .ok (.iload_n 2, 1) := by decide +kernel
theorem dX2_set_63 : decode cX2_set 63 = .ok (.iconst 2, 1) := by decide +kernel
theorem dX2_set_64 : decode cX2_set 64 = .ok (.ishr, 1) := by decide +kernel
theorem dX2_set_65 : decode cX2_set 65 = .ok (.iconst 1, 1) := by decide +kernel
theorem dX2_set_66 : decode cX2_set 66 = .ok (.iand, 1) := by decide +kernel
theorem dX2_set_67 : decode cX2_set 67 = .ok (.iconst 1, 1) := by decide +kernel
theorem dX2_set_68 : decode cX2_set 68 = .ok (.if_icmp .ne 7, 3) := by decide +kernel
theorem dX2_set_71 : decode cX2_set 71 = .ok (.iconst 1, 1) := by decide +kernel
theorem dX2_set_72 : decode cX2_set 72 = .ok (.goto 4, 3) := by decide +kernel
theorem dX2_set_75 : decode cX2_set 75 = .ok (.iconst 0, 1) := by decide +kernel
theorem dX2_set_76 : decode cX2_set 76 = .ok (.bastore, 1) := by decide +kernel
theorem dX2_set_77 : decode cX2_set 77 = .ok (.aload_n 0, 1) := by decide +kernel
theorem dX2_set_78 : decode cX2_set 78 = .ok (.getfield 32, 3) := by decide +kernel
theorem dX2_set_81 : decode cX2_set 81 = .ok (.iload_n 1, 1) := by decide +kernel
theorem dX2_set_82 : decode cX2_set 82 = .ok (.iload_n 2, 1) := by decide +kernel
theorem dX2_set_83 : decode cX2_set 83 = .ok (.iconst 3, 1) := by decide +kernel
theorem dX2_set_84 : decode cX2_set 84 = .ok (.iand, 1) := by decide +kernel
theorem dX2_set_85 : decode cX2_set 85 = .ok (.iconst 2, 1) := by decide +kernel
theorem dX2_set_86 : decode cX2_set 86 = .ok (.if_icmp .ne 7, 3) := by decide +kernel
theorem dX2_set_89 : decode cX2_set 89 = .ok (.iconst 0, 1) := by decide +kernel
theorem dX2_set_90 : decode cX2_set 90 = .ok (.goto 20, 3) := by decide +kernel
theorem dX2_set_93 : decode cX2_set 93 = .ok (.iload_n 2, 1) := by decide +kernel
theorem dX2_set_94 : decode cX2_set 94 = .ok (.iconst 3, 1) := by decide +kernel
theorem dX2_set_95 : decode cX2_set 95 = .ok (.iand, 1) := by decide +kernel
theorem dX2_set_96 : decode cX2_set 96 = .ok (.iconst 3, 1) := by decide +kernel
theorem dX2_set_97 : decode cX2_set 97 = .ok (.if_icmp .ne 7, 3) := by decide +kernel
theorem dX2_set_100 : decode cX2_set 100 = .ok (.iconst 1, 1) := by decide +kernel
theorem dX2_set_101 : decode cX2_set 101 = .ok (.goto 9, 3) := by decide +kernel
theorem dX2_set_104 : decode cX2_set 104 = .ok (.aload_n 0, 1) := by decide +kernel
theorem dX2_set_105 : decode cX2_set 105 = .ok (.getfield 32, 3) := by decide +kernel
theorem dX2_set_108 : decode cX2_set 108 = .ok (.iload_n 1, 1) := by decide +kernel
theorem dX2_set_109 : decode cX2_set 109 = .ok (.iaload, 1) := by decide +kernel
theorem dX2_set_110 : decode cX2_set 110 = .ok (.iastore, 1) := by decide +kernel
theorem dX2_set_111 : decode cX2_set 111 = .ok (.return_, 1) := by decide +kernel
theorem dX2_write_0 : decode cX2_write 0 = .ok (.aload_n 0, 1) := by decide +kernel
theorem dX2_write_1 : decode cX2_write 1 = .ok (.iload_n 1, 1) := by decide +kernel
theorem dX2_write_2 : decode cX2_write 2 = .ok (.invokestatic 87, 3) := by decide +kernel
theorem dX2_write_5 : decode cX2_write 5 = .ok (.ifCond .eq 16, 3) := by decide +kernel
theorem dX2_write_8 : decode cX2_write 8 = .ok (.iload_n 2, 1) := by decide +kernel
theorem dX2_write_9 : decode cX2_write 9 = .ok (.ifCond .eq 8, 3) := by decide +kernel
theorem dX2_write_12 : decode cX2_write 12 = .ok (.iload_n 2, 1) := by decide +kernel
theorem dX2_write_13 : decode cX2_write 13 = .ok (.iconst 1, 1) := by decide +kernel
theorem dX2_write_14 : decode cX2_write 14 = .ok (.if_icmp .ne 7, 3) := by decide +kernel
theorem dX2_write_17 : decode cX2_write 17 = .ok (.iconst 1, 1) := by decide +kernel
theorem dX2_write_18 : decode cX2_write 18 = .ok (.goto 4, 3) := by decide +kernel
theorem dX2_write_21 : decode cX2_write 21 = .ok (.iconst 0, 1) := by decide +kernel
theorem dX2_write_22 : decode cX2_write 22 = .ok (.iload_n 3, 1) := by decide +kernel
theorem dX2_write_23 : decode cX2_write 23 = .ok (.ifCond .lt 14, 3) := by decide +kernel
theorem dX2_write_26 : decode cX2_write 26 = .ok (.iload_n 3, 1) := by decide +kernel
theorem dX2_write_27 : decode cX2_write 27 = .ok (.sipush 255, 3) := by decide +kernel
theorem dX2_write_30 : decode cX2_write 30 = .ok (.if_icmp .gt 7, 3) := by decide +kernel
theorem dX2_write_33 : decode cX2_write 33 = .ok (.iconst 1, 1) := by decide +kernel
theorem dX2_write_34 : decode cX2_write 34 = .ok (.goto 4, 3) := by decide +kernel
theorem dX2_write_37 : decode cX2_write 37 = .ok (.iconst 0, 1) := by decide +kernel
theorem dX2_write_38 : decode cX2_write 38 = .ok (.invokevirtual 70, 3) := by decide +kernel
theorem dX2_write_41 : decode cX2_write 41 = .ok (.ifCond .ne 5, 3) := by decide +kernel
theorem dX2_write_44 : decode cX2_write 44 = .ok (.iconst 0, 1) := by decide +kernel
theorem dX2_write_45 : decode cX2_write 45 = .ok (.ireturn, 1) := by decide +kernel
theorem dX2_write_46 : decode cX2_write 46 = .ok (.iload_n 2, 1) := by decide +kernel
theorem dX2_write_47 : decode cX2_write 47 = .ok (.iconst 1, 1) := by decide +kernel
theorem dX2_write_48 : decode cX2_write 48 = .ok (.if_icmp .ne 12, 3) := by decide +kernel
theorem dX2_write_51 : decode cX2_write 51 = .ok (.aload_n 0, 1) := by decide +kernel
theorem dX2_write_52 : decode cX2_write 52 = .ok (.iload_n 1, 1) := by decide +kernel
theorem dX2_write_53 : decode cX2_write 53 = .ok (.iload_n 3, 1) := by decide +kernel
theorem dX2_write_54 : decode cX2_write 54 = .ok (.invokevirtual 91, 3) := by decide +kernel
theorem dX2_write_57 : decode cX2_write 57 = .ok (.goto 44, 3) := by decide +kernel
theorem dX2_write_60 : decode cX2_write 60 = .ok (.iload_n 3, 1) := by decide +kernel
theorem dX2_write_61 : decode cX2_write 61 = .ok (.iconst 4, 1) := by decide +kernel
theorem dX2_write_62 : decode cX2_write 62 = .ok (.ishr, 1) := by decide +kernel
theorem dX2_write_63 : decode cX2_write 63 = .ok (.iconst 1, 1) := by decide +kernel
theorem dX2_write_64 : decode cX2_write 64 = .ok (.iand, 1) := by decide +kernel
theorem dX2_write_65 : decode cX2_write 65 = .ok (.iconst 1, 1) := by decide +kernel
theorem dX2_write_66 : decode cX2_write 66 = .ok (.if_icmp .ne 12, 3) := by decide +kernel
theorem dX2_write_69 : decode cX2_write 69 = .ok (.aload_n 0, 1) := by decide +kernel
theorem dX2_write_70 : decode cX2_write 70 = .ok (.iload_n 1, 1) := by decide +kernel
theorem dX2_write_71 : decode cX2_write 71 = .ok (.iload_n 3, 1) := by decide +kernel
theorem dX2_write_72 : decode cX2_write 72 = .ok (.invokevirtual 95, 3) := by decide +kernel
theorem dX2_write_75 : decode cX2_write 75 = .ok (.goto 26, 3) := by decide +kernel
theorem dX2_write_78 : decode cX2_write 78 = .ok (.iload_n 3, 1) := by decide +kernel
theorem dX2_write_79 : decode cX2_write 79 = .ok (.iconst 3, 1) := by decide +kernel
theorem dX2_write_80 : decode cX2_write 80 = .ok (.ishr, 1) := by decide +kernel
theorem dX2_write_81 : decode cX2_write 81 = .ok (.iconst 1, 1) := by decide +kernel
theorem dX2_write_82 : decode cX2_write 82 = .ok (.iand, 1) := by decide +kernel
theorem dX2_write_83 : decode cX2_write 83 = .ok (.ifCond .ne 12, 3) := by decide +kernel
theorem dX2_write_86 : decode cX2_write 86 = .ok (.aload_n 0, 1) := by decide +kernel
theorem dX2_write_87 : decode cX2_write 87 = .ok (.iload_n 1, 1) := by decide +kernel
theorem dX2_write_88 : decode cX2_write 88 = .ok (.iload_n 3, 1) := by decide +kernel
theorem dX2_write_89 : decode cX2_write 89 = .ok (.invokevirtual 98, 3) := by decide +kernel
theorem dX2_write_92 : decode cX2_write 92 = .ok (.goto 9, 3) := by decide +kernel
theorem dX2_write_95 : decode cX2_write 95 = .ok (.aload_n 0, 1) := by decide +kernel
theorem dX2_write_96 : decode cX2_write 96 = .ok (.iload_n 1, 1) := by decide +kernel
theorem dX2_write_97 : decode cX2_write 97 = .ok (.iload_n 3, 1) := by decide +kernel
theorem dX2_write_98 : decode cX2_write 98 = .ok (.invokevirtual 101, 3) := by decide +kernel
theorem dX2_write_101 : decode cX2_write 101 = .ok (.aload_n 0, 1) := by decide +kernel
theorem dX2_write_102 : decode cX2_write 102 = .ok (.invokevirtual 74, 3) := by decide +kernel
theorem dX2_write_105 : decode cX2_write 105 = .ok (.aload_n 0, 1) := by decide +kernel
theorem dX2_write_106 : decode cX2_write 106 = .ok (.iconst 0, 1) := by decide +kernel
theorem dX2_write_107 : decode cX2_write 107 = .ok (.invokevirtual 59, 3) := by decide +kernel
theorem dX2_write_110 : decode cX2_write 110 = .ok (.iconst (-1), 1) := by decide +kernel
theorem dX2_write_111 : decode cX2_write 111 = .ok (.if_icmp .eq 7, 3) := by decide +kernel
theorem dX2_write_114 : decode cX2_write 114 = .ok (.iconst 1, 1) := by decide +kernel
theorem dX2_write_115 : decode cX2_write 115 = .ok (.goto 4, 3) := by decide +kernel
theorem dX2_write_118 : decode cX2_write 118 = .ok (.iconst 0, 1) := by decide +kernel
theorem dX2_write_119 : decode cX2_write 119 = .ok (.ireturn, 1) := by decide +kernel
theorem dX2_bits_0 : decode cX2_bits 0 = .ok (.iconst 0, 1) := by decide +kernel
theorem dX2_bits_1 : decode cX2_bits 1 = .ok (.istore_n 3, 1) := by decide +kernel
theorem dX2_bits_2 : decode cX2_bits 2 = .ok (.iconst 0, 1) := by decide +kernel
theorem dX2_bits_3 : decode cX2_bits 3 = .ok (.istore 4, 2) := by decide +kernel
theorem dX2_bits_5 : decode cX2_bits 5 = .ok (.iload 4, 2) := by decide +kernel
theorem dX2_bits_7 : decode cX2_bits 7 = .ok (.bipush 8, 2) := by decide +kernel
theorem dX2_bits_9 : decode cX2_bits 9 = .ok (.if_icmp .ge 93, 3) := by decide +kernel
theorem dX2_bits_12 : decode cX2_bits 12 = .ok (.iload_n 2, 1) := by decide +kernel
theorem dX2_bits_13 : decode cX2_bits 13 = .ok (.ifCond .ne 13, 3) := by decide +kernel
theorem dX2_bits_16 : decode cX2_bits 16 = .ok (.aload_n 0, 1) := by decide +kernel
theorem dX2_bits_17 : decode cX2_bits 17 = .ok (.iload_n 1, 1) := by decide +kernel
theorem dX2_bits_18 : decode cX2_bits 18 = .ok (.iload 4, 2) := by decide +kernel
theorem dX2_bits_20 : decode cX2_bits 20 = .ok (.invokevirtual 56, 3) := by decide +kernel
theorem dX2_bits_23 : decode cX2_bits 23 = .ok (.goto 55, 3) := by decide +kernel
theorem dX2_bits_26 : decode cX2_bits 26 = .ok (.iload_n 2, 1) := by decide +kernel
theorem dX2_bits_27 : decode cX2_bits 27 = .ok (.iconst 1, 1) := by decide +kernel
theorem dX2_bits_28 : decode cX2_bits 28 = .ok (.if_icmp .ne 18, 3) := by decide +kernel
theorem dX2_bits_31 : decode cX2_bits 31 = .ok (.aload_n 0, 1) := by decide +kernel
theorem dX2_bits_32 : decode cX2_bits 32 = .ok (.getfield 16, 3) := by decide +kernel
theorem dX2_bits_35 : decode cX2_bits 35 = .ok (.bipush 8, 2) := by decide +kernel
theorem dX2_bits_37 : decode cX2_bits 37 = .ok (.iload_n 1, 1) := by decide +kernel
theorem dX2_bits_38 : decode cX2_bits 38 = .ok (.imul, 1) := by decide +kernel
theorem dX2_bits_39 : decode cX2_bits 39 = .ok (.iload 4, 2) := by decide +kernel
theorem dX2_bits_41 : decode cX2_bits 41 = .ok (.iadd, 1) := by decide +kernel
theorem dX2_bits_42 : decode cX2_bits 42 = .ok (.baload, 1) := by decide +kernel
theorem dX2_bits_43 : decode cX2_bits 43 = .ok (.goto 35, 3) := by decide +kernel
theorem dX2_bits_46 : decode cX2_bits 46 = .ok (.iload_n 2, 1) := by decide +kernel
theorem dX2_bits_47 : decode cX2_bits 47 = .ok (.iconst 2, 1) := by decide +kernel
theorem dX2_bits_48 : decode cX2_bits 48 = .ok (.if_icmp .ne 18, 3) := by decide +kernel
theorem dX2_bits_51 : decode cX2_bits 51 = .ok (.aload_n 0, 1) := by decide +kernel
theorem dX2_bits_52 : decode cX2_bits 52 = .ok (.getfield 19, 3) := by decide +kernel
theorem dX2_bits_55 : decode cX2_bits 55 = .ok (.bipush 8, 2) := by decide +kernel
theorem dX2_bits_57 : decode cX2_bits 57 = .ok (.iload_n 1, 1) := by decide +kernel
theorem dX2_bits_58 : decode cX2_bits 58 = .ok (.imul, 1) := by decide +kernel
theorem dX2_bits_59 : decode cX2_bits 59 = .ok (.iload 4, 2) := by decide +kernel
theorem dX2_bits_61 : decode cX2_bits 61 = .ok (.iadd, 1) := by decide +kernel
theorem dX2_bits_62 : decode cX2_bits 62 = .ok (.baload, 1) := by decide +kernel
theorem dX2_bits_63 : decode cX2_bits 63 = .ok (.goto 15, 3) := by decide +kernel
theorem dX2_bits_66 : decode cX2_bits 66 = .ok (.aload_n 0, 1) := by decide +kernel
theorem dX2_bits_67 : decode cX2_bits 67 = .ok (.getfield 7, 3) := by decide +kernel
theorem dX2_bits_70 : decode cX2_bits 70 = .ok (.bipush 8, 2) := by decide +kernel
theorem dX2_bits_72 : decode cX2_bits 72 = .ok (.iload_n 1, 1) := by decide +kernel
theorem dX2_bits_73 : decode cX2_bits 73 = .ok (.imul, 1) := by decide +kernel
theorem dX2_bits_74 : decode cX2_bits 74 = .ok (.iload 4, 2) := by decide +kernel
theorem dX2_bits_76 : decode cX2_bits 76 = .ok (.iadd, 1) := by decide +kernel
theorem dX2_bits_77 : decode cX2_bits 77 = .ok (.baload, 1) := by decide +kernel
theorem dX2_bits_78 : decode cX2_bits 78 = .ok (.istore 5, 2) := by decide +kernel
theorem dX2_bits_80 : decode cX2_bits 80 = .ok (.iload 5, 2) := by decide +kernel
theorem dX2_bits_82 : decode cX2_bits 82 = .ok (.ifCond .eq 12, 3) := by decide +kernel
theorem dX2_bits_85 : decode cX2_bits 85 = .ok (.iload_n 3, 1) := by decide +kernel
theorem dX2_bits_86 : decode cX2_bits 86 = .ok (.iconst 1, 1) := by decide +kernel
theorem dX2_bits_87 : decode cX2_bits 87 = .ok (.iload 4, 2) := by decide +kernel
theorem dX2_bits_89 : decode cX2_bits 89 = .ok (.ishl, 1) := by decide +kernel
theorem dX2_bits_90 : decode cX2_bits 90 = .ok (.ior, 1) := by decide +kernel
theorem dX2_bits_91 : decode cX2_bits 91 = .ok (.goto 4, 3) := by decide +kernel
theorem dX2_bits_94 : decode cX2_bits 94 = .ok (.iload_n 3, 1) := by decide +kernel
theorem dX2_bits_95 : decode cX2_bits 95 = .ok (.istore_n 3, 1) := by decide +kernel
theorem dX2_bits_96 : decode cX2_bits 96 = .ok (.iinc 4 1, 3) := by decide +kernel
theorem dX2_bits_99 : decode cX2_bits 99 = .ok (.goto (-94), 3) := by decide +kernel
theorem dX2_bits_102 : decode cX2_bits 102 = .ok (.iload_n 3, 1) := by decide +kernel
theorem dX2_bits_103 : decode cX2_bits 103 = .ok (.ireturn, 1) := by decide +kernel
theorem dX2_read_0 : decode cX2_read 0 = .ok (.aload_n 0, 1) := by decide +kernel
theorem dX2_read_1 : decode cX2_read 1 = .ok (.iload_n 1, 1) := by decide +kernel
theorem dX2_read_2 : decode cX2_read 2 = .ok (.invokestatic 87, 3) := by decide +kernel
theorem dX2_read_5 : decode cX2_read 5 = .ok (.ifCond .eq 16, 3) := by decide +kernel
theorem dX2_read_8 : decode cX2_read 8 = .ok (.iload_n 2, 1) := by decide +kernel
theorem dX2_read_9 : decode cX2_read 9 = .ok (.ifCond .eq 8, 3) := by decide +kernel
theorem dX2_read_12 : decode cX2_read 12 = .ok (.iload_n 2, 1) := by decide +kernel
theorem dX2_read_13 : decode cX2_read 13 = .ok (.iconst 1, 1) := by decide +kernel
theorem dX2_read_14 : decode cX2_read 14 = .ok (.if_icmp .ne 7, 3) := by decide +kernel
theorem dX2_read_17 : decode cX2_read 17 = .ok (.iconst 1, 1) := by decide +kernel
theorem dX2_read_18 : decode cX2_read 18 = .ok (.goto 4, 3) := by decide +kernel
theorem dX2_read_21 : decode cX2_read 21 = .ok (.iconst 0, 1) := by decide +kernel
theorem dX2_read_22 : decode cX2_read 22 = .ok (.iconst 1, 1) := by decide +kernel
theorem dX2_read_23 : decode cX2_read 23 = .ok (.invokevirtual 70, 3) := by decide +kernel
theorem dX2_read_26 : decode cX2_read 26 = .ok (.ifCond .ne 5, 3) := by decide +kernel
theorem dX2_read_29 : decode cX2_read 29 = .ok (.iconst 0, 1) := by decide +kernel
theorem dX2_read_30 : decode cX2_read 30 = .ok (.ireturn, 1) := by decide +kernel
theorem dX2_read_31 : decode cX2_read 31 = .ok (.iload_n 2, 1) := by decide +kernel
theorem dX2_read_32 : decode cX2_read 32 = .ok (.iconst 1, 1) := by decide +kernel
theorem dX2_read_33 : decode cX2_read 33 = .ok (.if_icmp .ne 10, 3) := by decide +kernel
theorem dX2_read_36 : decode cX2_read 36 = .ok (.aload_n 0, 1) := by decide +kernel
theorem dX2_read_37 : decode cX2_read 37 = .ok (.iload_n 1, 1) := by decide +kernel
theorem dX2_read_38 : decode cX2_read 38 = .ok (.iconst 2, 1) := by decide +kernel
theorem dX2_read_39 : decode cX2_read 39 = .ok (.invokevirtual 104, 3) := by decide +kernel
theorem dX2_read_42 : decode cX2_read 42 = .ok (.ireturn, 1) := by decide +kernel
theorem dX2_read_43 : decode cX2_read 43 = .ok (.aload_n 0, 1) := by decide +kernel
theorem dX2_read_44 : decode cX2_read 44 = .ok (.iload_n 1, 1) := by decide +kernel
theorem dX2_read_45 : decode cX2_read 45 = .ok (.bipush 6, 2) := by decide +kernel
theorem dX2_read_47 : decode cX2_read 47 = .ok (.invokevirtual 45, 3) := by decide +kernel
theorem dX2_read_50 : decode cX2_read 50 = .ok (.ifCond .ne 15, 3) := by decide +kernel
theorem dX2_read_53 : decode cX2_read 53 = .ok (.aload_n 0, 1) := by decide +kernel
theorem dX2_read_54 : decode cX2_read 54 = .ok (.iload_n 1, 1) := by decide +kernel
theorem dX2_read_55 : decode cX2_read 55 = .ok (.aload_n 0, 1) := by decide +kernel
theorem dX2_read_56 : decode cX2_read 56 = .ok (.getfield 32, 3) := by decide +kernel
theorem dX2_read_59 : decode cX2_read 59 = .ok (.iload_n 1, 1) := by decide +kernel
theorem dX2_read_60 : decode cX2_read 60 = .ok (.iaload, 1) := by decide +kernel
theorem dX2_read_61 : decode cX2_read 61 = .ok (.invokevirtual 104, 3) := by decide +kernel
theorem dX2_read_64 : decode cX2_read 64 = .ok (.ireturn, 1) := by decide +kernel
theorem dX2_read_65 : decode cX2_read 65 = .ok (.aload_n 0, 1) := by decide +kernel
theorem dX2_read_66 : decode cX2_read 66 = .ok (.getfield 35, 3) := by decide +kernel
theorem dX2_read_69 : decode cX2_read 69 = .ok (.bipush 7, 2) := by decide +kernel
theorem dX2_read_71 : decode cX2_read 71 = .ok (.iload_n 1, 1) := by decide +kernel
theorem dX2_read_72 : decode cX2_read 72 = .ok (.imul, 1) := by decide +kernel
theorem dX2_read_73 : decode cX2_read 73 = .ok (.bipush 6, 2) := by decide +kernel
theorem dX2_read_75 : decode cX2_read 75 = .ok (.iadd, 1) := by decide +kernel
theorem dX2_read_76 : decode cX2_read 76 = .ok (.iconst 0, 1) := by decide +kernel
theorem dX2_read_77 : decode cX2_read 77 = .ok (.bastore, 1) := by decide +kernel
theorem dX2_read_78 : decode cX2_read 78 = .ok (.aload_n 0, 1) := by decide +kernel
theorem dX2_read_79 : decode cX2_read 79 = .ok (.iload_n 1, 1) := by decide +kernel
theorem dX2_read_80 : decode cX2_read 80 = .ok (.invokevirtual 59, 3) := by decide +kernel
theorem dX2_read_83 : decode cX2_read 83 = .ok (.istore_n 3, 1) := by decide +kernel
theorem dX2_read_84 : decode cX2_read 84 = .ok (.iload_n 3, 1) := by decide +kernel
theorem dX2_read_85 : decode cX2_read 85 = .ok (.iconst (-1), 1) := by decide +kernel
theorem dX2_read_86 : decode cX2_read 86 = .ok (.if_icmp .ne 5, 3) := by decide +kernel
theorem dX2_read_89 : decode cX2_read 89 = .ok (.iconst 0, 1) := by decide +kernel
theorem dX2_read_90 : decode cX2_read 90 = .ok (.ireturn, 1) := by decide +kernel
theorem dX2_read_91 : decode cX2_read 91 = .ok (.aload_n 0, 1) := by decide +kernel
theorem dX2_read_92 : decode cX2_read 92 = .ok (.iload_n 1, 1) := by decide +kernel
theorem dX2_read_93 : decode cX2_read 93 = .ok (.iload_n 3, 1) := by decide +kernel
theorem dX2_read_94 : decode cX2_read 94 = .ok (.invokevirtual 107, 3) := by decide +kernel
theorem dX2_read_97 : decode cX2_read 97 = .ok (.aload_n 0, 1) := by decide +kernel
theorem dX2_read_98 : decode cX2_read 98 = .ok (.invokevirtual 74, 3) := by decide +kernel
theorem dX2_read_101 : decode cX2_read 101 = .ok (.sipush 128, 3) := by decide +kernel
theorem dX2_read_104 : decode cX2_read 104 = .ok (.iload_n 3, 1) := by decide +kernel
theorem dX2_read_105 : decode cX2_read 105 = .ok (.iadd, 1) := by decide +kernel
theorem dX2_read_106 : decode cX2_read 106 = .ok (.ireturn, 1) := by decide +kernel
theorem dX2_take_0 : decode cX2_take 0 = .ok (.aload_n 0, 1) := by decide +kernel
theorem dX2_take_1 : decode cX2_take 1 = .ok (.iconst 0, 1) := by decide +kernel
theorem dX2_take_2 : decode cX2_take 2 = .ok (.putfield 41, 3) := by decide +kernel
theorem dX2_take_5 : decode cX2_take 5 = .ok (.aload_n 0, 1) := by decide +kernel
theorem dX2_take_6 : decode cX2_take 6 = .ok (.iconst 0, 1) := by decide +kernel
theorem dX2_take_7 : decode cX2_take 7 = .ok (.invokevirtual 59, 3) := by decide +kernel
theorem dX2_take_10 : decode cX2_take 10 = .ok (.istore_n 1, 1) := by decide +kernel
theorem dX2_take_11 : decode cX2_take 11 = .ok (.iload_n 1, 1) := by decide +kernel
theorem dX2_take_12 : decode cX2_take 12 = .ok (.iconst (-1), 1) := by decide +kernel
theorem dX2_take_13 : decode cX2_take 13 = .ok (.if_icmp .ne 23, 3) := by decide +kernel
theorem dX2_take_16 : decode cX2_take 16 = .ok (.aload_n 0, 1) := by decide +kernel
theorem dX2_take_17 : decode cX2_take 17 = .ok (.dup, 1) := by decide +kernel
theorem dX2_take_18 : decode cX2_take 18 = .ok (.getfield 110, 3) := by decide +kernel
theorem dX2_take_21 : decode cX2_take 21 = .ok (.iconst 1, 1) := by decide +kernel
theorem dX2_take_22 : decode cX2_take 22 = .ok (.iadd, 1) := by decide +kernel
theorem dX2_take_23 : decode cX2_take 23 = .ok (.putfield 110, 3) := by decide +kernel
theorem dX2_take_26 : decode cX2_take 26 = .ok (.aload_n 0, 1) := by decide +kernel
theorem dX2_take_27 : decode cX2_take 27 = .ok (.getfield 26, 3) := by decide +kernel
theorem dX2_take_30 : decode cX2_take 30 = .ok (.iconst 0, 1) := by decide +kernel
theorem dX2_take_31 : decode cX2_take 31 = .ok (.iaload, 1) := by decide +kernel
theorem dX2_take_32 : decode cX2_take 32 = .ok (.bipush 7, 2) := by decide +kernel
theorem dX2_take_34 : decode cX2_take 34 = .ok (.iadd, 1) := by decide +kernel
theorem dX2_take_35 : decode cX2_take 35 = .ok (.ireturn, 1) := by decide +kernel
theorem dX2_take_36 : decode cX2_take 36 = .ok (.aload_n 0, 1) := by decide +kernel
theorem dX2_take_37 : decode cX2_take 37 = .ok (.iconst 0, 1) := by decide +kernel
theorem dX2_take_38 : decode cX2_take 38 = .ok (.iload_n 1, 1) := by decide +kernel
theorem dX2_take_39 : decode cX2_take 39 = .ok (.invokevirtual 107, 3) := by decide +kernel
theorem dX2_take_42 : decode cX2_take 42 = .ok (.iload_n 1, 1) := by decide +kernel
theorem dX2_take_43 : decode cX2_take 43 = .ok (.iconst 2, 1) := by decide +kernel
theorem dX2_take_44 : decode cX2_take 44 = .ok (.if_icmp .eq 12, 3) := by decide +kernel
theorem dX2_take_47 : decode cX2_take 47 = .ok (.aload_n 0, 1) := by decide +kernel
theorem dX2_take_48 : decode cX2_take 48 = .ok (.getfield 26, 3) := by decide +kernel
theorem dX2_take_51 : decode cX2_take 51 = .ok (.iconst 0, 1) := by decide +kernel
theorem dX2_take_52 : decode cX2_take 52 = .ok (.iaload, 1) := by decide +kernel
theorem dX2_take_53 : decode cX2_take 53 = .ok (.iload_n 1, 1) := by decide +kernel
theorem dX2_take_54 : decode cX2_take 54 = .ok (.iadd, 1) := by decide +kernel
theorem dX2_take_55 : decode cX2_take 55 = .ok (.ireturn, 1) := by decide +kernel
theorem dX2_take_56 : decode cX2_take 56 = .ok (.aload_n 0, 1) := by decide +kernel
theorem dX2_take_57 : decode cX2_take 57 = .ok (.iconst 1, 1) := by decide +kernel
theorem dX2_take_58 : decode cX2_take 58 = .ok (.invokevirtual 59, 3) := by decide +kernel
theorem dX2_take_61 : decode cX2_take 61 = .ok (.istore_n 2, 1) := by decide +kernel
theorem dX2_take_62 : decode cX2_take 62 = .ok (.aload_n 0, 1) := by decide +kernel
theorem dX2_take_63 : decode cX2_take 63 = .ok (.iconst 1, 1) := by decide +kernel
theorem dX2_take_64 : decode cX2_take 64 = .ok (.iload_n 2, 1) := by decide +kernel
theorem dX2_take_65 : decode cX2_take 65 = .ok (.invokevirtual 107, 3) := by decide +kernel
theorem dX2_take_68 : decode cX2_take 68 = .ok (.aload_n 0, 1) := by decide +kernel
theorem dX2_take_69 : decode cX2_take 69 = .ok (.iconst 2, 1) := by decide +kernel
theorem dX2_take_70 : decode cX2_take 70 = .ok (.iconst 0, 1) := by decide +kernel
theorem dX2_take_71 : decode cX2_take 71 = .ok (.invokevirtual 63, 3) := by decide +kernel
theorem dX2_take_74 : decode cX2_take 74 = .ok (.aload_n 0, 1) := by decide +kernel
theorem dX2_take_75 : decode cX2_take 75 = .ok (.invokevirtual 74, 3) := by decide +kernel
theorem dX2_take_78 : decode cX2_take 78 = .ok (.aload_n 0, 1) := by decide +kernel
theorem dX2_take_79 : decode cX2_take 79 = .ok (.getfield 26, 3) := by decide +kernel
theorem dX2_take_82 : decode cX2_take 82 = .ok (.iconst 1, 1) := by decide +kernel
theorem dX2_take_83 : decode cX2_take 83 = .ok (.iaload, 1) := by decide +kernel
theorem dX2_take_84 : decode cX2_take 84 = .ok (.iload_n 2, 1) := by decide +kernel
theorem dX2_take_85 : decode cX2_take 85 = .ok (.iadd, 1) := by decide +kernel
theorem dX2_take_86 : decode cX2_take 86 = .ok (.ireturn, 1) := by decide +kernel
theorem dX2_delivers_0 : decode cX2_delivers 0 = .ok (.aload_n 0, 1) := by decide +kernel
theorem dX2_delivers_1 : decode cX2_delivers 1 = .ok (.iload_n 1, 1) := by decide +kernel
theorem dX2_delivers_2 : decode cX2_delivers 2 = .ok (.invokestatic 87, 3) := by decide +kernel
theorem dX2_delivers_5 : decode cX2_delivers 5 = .ok (.iconst 1, 1) := by decide +kernel
theorem dX2_delivers_6 : decode cX2_delivers 6 = .ok (.invokevirtual 70, 3) := by decide +kernel
theorem dX2_delivers_9 : decode cX2_delivers 9 = .ok (.ifCond .eq 11, 3) := by decide +kernel
theorem dX2_delivers_12 : decode cX2_delivers 12 = .ok (.aload_n 0, 1) := by decide +kernel
theorem dX2_delivers_13 : decode cX2_delivers 13 = .ok (.iload_n 1, 1) := by decide +kernel
theorem dX2_delivers_14 : decode cX2_delivers 14 = .ok (.invokevirtual 59, 3) := by decide +kernel
theorem dX2_delivers_17 : decode cX2_delivers 17 = .ok (.goto 4, 3) := by decide +kernel
theorem dX2_delivers_20 : decode cX2_delivers 20 = .ok (.iconst 0, 1) := by decide +kernel
theorem dX2_delivers_21 : decode cX2_delivers 21 = .ok (.ireturn, 1) := by decide +kernel
theorem dX2_about_0 : decode cX2_about 0 = .ok (.aload_n 0, 1) := by decide +kernel
theorem dX2_about_1 : decode cX2_about 1 = .ok (.iload_n 1, 1) := by decide +kernel
theorem dX2_about_2 : decode cX2_about 2 = .ok (.invokestatic 87, 3) := by decide +kernel
theorem dX2_about_5 : decode cX2_about 5 = .ok (.iload_n 2, 1) := by decide +kernel
theorem dX2_about_6 : decode cX2_about 6 = .ok (.ifCond .lt 13, 3) := by decide +kernel
theorem dX2_about_9 : decode cX2_about 9 = .ok (.iload_n 2, 1) := by decide +kernel
theorem dX2_about_10 : decode cX2_about 10 = .ok (.bipush 7, 2) := by decide +kernel
theorem dX2_about_12 : decode cX2_about 12 = .ok (.if_icmp .gt 7, 3) := by decide +kernel
theorem dX2_about_15 : decode cX2_about 15 = .ok (.iconst 1, 1) := by decide +kernel
theorem dX2_about_16 : decode cX2_about 16 = .ok (.goto 4, 3) := by decide +kernel
theorem dX2_about_19 : decode cX2_about 19 = .ok (.iconst 0, 1) := by decide +kernel
theorem dX2_about_20 : decode cX2_about 20 = .ok (.invokevirtual 70, 3) := by decide +kernel
theorem dX2_about_23 : decode cX2_about 23 = .ok (.ifCond .ne 5, 3) := by decide +kernel
theorem dX2_about_26 : decode cX2_about 26 = .ok (.iconst 0, 1) := by decide +kernel
theorem dX2_about_27 : decode cX2_about 27 = .ok (.ireturn, 1) := by decide +kernel
theorem dX2_about_28 : decode cX2_about 28 = .ok (.iload_n 2, 1) := by decide +kernel
theorem dX2_about_29 : decode cX2_about 29 = .ok (.tableswitch 59 4 7 #[31, 38, 45, 52], 31) := by decide +kernel
theorem dX2_about_60 : decode cX2_about 60 = .ok (.aload_n 0, 1) := by decide +kernel
theorem dX2_about_61 : decode cX2_about 61 = .ok (.getfield 22, 3) := by decide +kernel
theorem dX2_about_64 : decode cX2_about 64 = .ok (.iload_n 1, 1) := by decide +kernel
theorem dX2_about_65 : decode cX2_about 65 = .ok (.iaload, 1) := by decide +kernel
theorem dX2_about_66 : decode cX2_about 66 = .ok (.ireturn, 1) := by decide +kernel
theorem dX2_about_67 : decode cX2_about 67 = .ok (.aload_n 0, 1) := by decide +kernel
theorem dX2_about_68 : decode cX2_about 68 = .ok (.getfield 26, 3) := by decide +kernel
theorem dX2_about_71 : decode cX2_about 71 = .ok (.iload_n 1, 1) := by decide +kernel
theorem dX2_about_72 : decode cX2_about 72 = .ok (.iaload, 1) := by decide +kernel
theorem dX2_about_73 : decode cX2_about 73 = .ok (.ireturn, 1) := by decide +kernel
theorem dX2_about_74 : decode cX2_about 74 = .ok (.aload_n 0, 1) := by decide +kernel
theorem dX2_about_75 : decode cX2_about 75 = .ok (.getfield 29, 3) := by decide +kernel
theorem dX2_about_78 : decode cX2_about 78 = .ok (.iload_n 1, 1) := by decide +kernel
theorem dX2_about_79 : decode cX2_about 79 = .ok (.iaload, 1) := by decide +kernel
theorem dX2_about_80 : decode cX2_about 80 = .ok (.ireturn, 1) := by decide +kernel
theorem dX2_about_81 : decode cX2_about 81 = .ok (.aload_n 0, 1) := by decide +kernel
theorem dX2_about_82 : decode cX2_about 82 = .ok (.getfield 32, 3) := by decide +kernel
theorem dX2_about_85 : decode cX2_about 85 = .ok (.iload_n 1, 1) := by decide +kernel
theorem dX2_about_86 : decode cX2_about 86 = .ok (.iaload, 1) := by decide +kernel
theorem dX2_about_87 : decode cX2_about 87 = .ok (.ireturn, 1) := by decide +kernel
theorem dX2_about_88 : decode cX2_about 88 = .ok (.aload_n 0, 1) := by decide +kernel
theorem dX2_about_89 : decode cX2_about 89 = .ok (.iload_n 1, 1) := by decide +kernel
theorem dX2_about_90 : decode cX2_about 90 = .ok (.iload_n 2, 1) := by decide +kernel
theorem dX2_about_91 : decode cX2_about 91 = .ok (.invokevirtual 104, 3) := by decide +kernel
theorem dX2_about_94 : decode cX2_about 94 = .ok (.ireturn, 1) := by decide +kernel
theorem dX2_mode_0 : decode cX2_mode 0 = .ok (.aload_n 0, 1) := by decide +kernel
theorem dX2_mode_1 : decode cX2_mode 1 = .ok (.iload_n 1, 1) := by decide +kernel
theorem dX2_mode_2 : decode cX2_mode 2 = .ok (.invokestatic 87, 3) := by decide +kernel
theorem dX2_mode_5 : decode cX2_mode 5 = .ok (.iload_n 2, 1) := by decide +kernel
theorem dX2_mode_6 : decode cX2_mode 6 = .ok (.ifCond .lt 13, 3) := by decide +kernel
theorem dX2_mode_9 : decode cX2_mode 9 = .ok (.iload_n 2, 1) := by decide +kernel
theorem dX2_mode_10 : decode cX2_mode 10 = .ok (.bipush 6, 2) := by decide +kernel
theorem dX2_mode_12 : decode cX2_mode 12 = .ok (.if_icmp .gt 7, 3) := by decide +kernel
theorem dX2_mode_15 : decode cX2_mode 15 = .ok (.iconst 1, 1) := by decide +kernel
theorem dX2_mode_16 : decode cX2_mode 16 = .ok (.goto 4, 3) := by decide +kernel
theorem dX2_mode_19 : decode cX2_mode 19 = .ok (.iconst 0, 1) := by decide +kernel
theorem dX2_mode_20 : decode cX2_mode 20 = .ok (.invokevirtual 70, 3) := by decide +kernel
theorem dX2_mode_23 : decode cX2_mode 23 = .ok (.ifCond .eq 16, 3) := by decide +kernel
theorem dX2_mode_26 : decode cX2_mode 26 = .ok (.aload_n 0, 1) := by decide +kernel
theorem dX2_mode_27 : decode cX2_mode 27 = .ok (.iload_n 1, 1) := by decide +kernel
theorem dX2_mode_28 : decode cX2_mode 28 = .ok (.iload_n 2, 1) := by decide +kernel
theorem dX2_mode_29 : decode cX2_mode 29 = .ok (.invokevirtual 45, 3) := by decide +kernel
theorem dX2_mode_32 : decode cX2_mode 32 = .ok (.ifCond .eq 7, 3) := by decide +kernel
theorem dX2_mode_35 : decode cX2_mode 35 = .ok (.iconst 1, 1) := by decide +kernel
theorem dX2_mode_36 : decode cX2_mode 36 = .ok (.goto 4, 3) := by decide +kernel
theorem dX2_mode_39 : decode cX2_mode 39 = .ok (.iconst 0, 1) := by decide +kernel
theorem dX2_mode_40 : decode cX2_mode 40 = .ok (.ireturn, 1) := by decide +kernel
theorem dX2_count_0 : decode cX2_count 0 = .ok (.aload_n 0, 1) := by decide +kernel
theorem dX2_count_1 : decode cX2_count 1 = .ok (.iload_n 1, 1) := by decide +kernel
theorem dX2_count_2 : decode cX2_count 2 = .ok (.ifCond .lt 12, 3) := by decide +kernel
theorem dX2_count_5 : decode cX2_count 5 = .ok (.iload_n 1, 1) := by decide +kernel
theorem dX2_count_6 : decode cX2_count 6 = .ok (.iconst 2, 1) := by decide +kernel
theorem dX2_count_7 : decode cX2_count 7 = .ok (.if_icmp .gt 7, 3) := by decide +kernel
theorem dX2_count_10 : decode cX2_count 10 = .ok (.iconst 1, 1) := by decide +kernel
theorem dX2_count_11 : decode cX2_count 11 = .ok (.goto 4, 3) := by decide +kernel
theorem dX2_count_14 : decode cX2_count 14 = .ok (.iconst 0, 1) := by decide +kernel
theorem dX2_count_15 : decode cX2_count 15 = .ok (.iconst 1, 1) := by decide +kernel
theorem dX2_count_16 : decode cX2_count 16 = .ok (.invokevirtual 70, 3) := by decide +kernel
theorem dX2_count_19 : decode cX2_count 19 = .ok (.ifCond .ne 5, 3) := by decide +kernel
theorem dX2_count_22 : decode cX2_count 22 = .ok (.iconst 0, 1) := by decide +kernel
theorem dX2_count_23 : decode cX2_count 23 = .ok (.ireturn, 1) := by decide +kernel
theorem dX2_count_24 : decode cX2_count 24 = .ok (.iload_n 1, 1) := by decide +kernel
theorem dX2_count_25 : decode cX2_count 25 = .ok (.ifCond .ne 10, 3) := by decide +kernel
theorem dX2_count_28 : decode cX2_count 28 = .ok (.aload_n 0, 1) := by decide +kernel
theorem dX2_count_29 : decode cX2_count 29 = .ok (.getfield 67, 3) := by decide +kernel
theorem dX2_count_32 : decode cX2_count 32 = .ok (.goto 19, 3) := by decide +kernel
theorem dX2_count_35 : decode cX2_count 35 = .ok (.iload_n 1, 1) := by decide +kernel
theorem dX2_count_36 : decode cX2_count 36 = .ok (.iconst 1, 1) := by decide +kernel
theorem dX2_count_37 : decode cX2_count 37 = .ok (.if_icmp .ne 10, 3) := by decide +kernel
theorem dX2_count_40 : decode cX2_count 40 = .ok (.aload_n 0, 1) := by decide +kernel
theorem dX2_count_41 : decode cX2_count 41 = .ok (.getfield 110, 3) := by decide +kernel
theorem dX2_count_44 : decode cX2_count 44 = .ok (.goto 7, 3) := by decide +kernel
theorem dX2_count_47 : decode cX2_count 47 = .ok (.aload_n 0, 1) := by decide +kernel
theorem dX2_count_48 : decode cX2_count 48 = .ok (.getfield 80, 3) := by decide +kernel
theorem dX2_count_51 : decode cX2_count 51 = .ok (.ireturn, 1) := by decide +kernel
