theorem dX0_worth_0 : decode cX0_worth 0 = .ok (.iload_n 0, 1) := by decide +kernel
theorem dX0_worth_1 : decode cX0_worth 1 = .ok (.tableswitch 117 1 5 #[35, 44, 53, 72, 104], 35) := by decide +kernel
theorem dX0_worth_36 : decode cX0_worth 36 = .ok (.iload_n 1, 1) := by decide +kernel
theorem dX0_worth_37 : decode cX0_worth 37 = .ok (.iload_n 2, 1) := by decide +kernel
theorem dX0_worth_38 : decode cX0_worth 38 = .ok (.iload_n 3, 1) := by decide +kernel
theorem dX0_worth_39 : decode cX0_worth 39 = .ok (.iload 4, 2) := by decide +kernel
theorem dX0_worth_41 : decode cX0_worth 41 = .ok (.invokestatic 7, 3) := by decide +kernel
theorem dX0_worth_44 : decode cX0_worth 44 = .ok (.ireturn, 1) := by decide +kernel
theorem dX0_worth_45 : decode cX0_worth 45 = .ok (.iload_n 1, 1) := by decide +kernel
theorem dX0_worth_46 : decode cX0_worth 46 = .ok (.iload_n 2, 1) := by decide +kernel
theorem dX0_worth_47 : decode cX0_worth 47 = .ok (.iload_n 3, 1) := by decide +kernel
theorem dX0_worth_48 : decode cX0_worth 48 = .ok (.iload 4, 2) := by decide +kernel
theorem dX0_worth_50 : decode cX0_worth 50 = .ok (.invokestatic 13, 3) := by decide +kernel
theorem dX0_worth_53 : decode cX0_worth 53 = .ok (.ireturn, 1) := by decide +kernel
theorem dX0_worth_54 : decode cX0_worth 54 = .ok (.iload_n 1, 1) := by decide +kernel
theorem dX0_worth_55 : decode cX0_worth 55 = .ok (.iload_n 2, 1) := by decide +kernel
theorem dX0_worth_56 : decode cX0_worth 56 = .ok (.iconst 0, 1) := by decide +kernel
theorem dX0_worth_57 : decode cX0_worth 57 = .ok (.iload 4, 2) := by decide +kernel
theorem dX0_worth_59 : decode cX0_worth 59 = .ok (.invokestatic 7, 3) := by decide +kernel
theorem dX0_worth_62 : decode cX0_worth 62 = .ok (.iload_n 3, 1) := by decide +kernel
theorem dX0_worth_63 : decode cX0_worth 63 = .ok (.ifCond .eq 7, 3) := by decide +kernel
theorem dX0_worth_66 : decode cX0_worth 66 = .ok (.iconst 0, 1) := by decide +kernel
theorem dX0_worth_67 : decode cX0_worth 67 = .ok (.goto 4, 3) := by decide +kernel
theorem dX0_worth_70 : decode cX0_worth 70 = .ok (.iconst 3, 1) := by decide +kernel
theorem dX0_worth_71 : decode cX0_worth 71 = .ok (.isub, 1) := by decide +kernel
theorem dX0_worth_72 : decode cX0_worth 72 = .ok (.ireturn, 1) := by decide +kernel
theorem dX0_worth_73 : decode cX0_worth 73 = .ok (.iload_n 2, 1) := by decide +kernel
theorem dX0_worth_74 : decode cX0_worth 74 = .ok (.bipush 9, 2) := by decide +kernel
theorem dX0_worth_76 : decode cX0_worth 76 = .ok (.if_icmp .le 20, 3) := by decide +kernel
theorem dX0_worth_79 : decode cX0_worth 79 = .ok (.iload_n 1, 1) := by decide +kernel
theorem dX0_worth_80 : decode cX0_worth 80 = .ok (.iload_n 2, 1) := by decide +kernel
theorem dX0_worth_81 : decode cX0_worth 81 = .ok (.bipush 9, 2) := by decide +kernel
theorem dX0_worth_83 : decode cX0_worth 83 = .ok (.isub, 1) := by decide +kernel
theorem dX0_worth_84 : decode cX0_worth 84 = .ok (.iload_n 3, 1) := by decide +kernel
theorem dX0_worth_85 : decode cX0_worth 85 = .ok (.iload 4, 2) := by decide +kernel
theorem dX0_worth_87 : decode cX0_worth 87 = .ok (.invokestatic 13, 3) := by decide +kernel
theorem dX0_worth_90 : decode cX0_worth 90 = .ok (.bipush 10, 2) := by decide +kernel
theorem dX0_worth_92 : decode cX0_worth 92 = .ok (.iadd, 1) := by decide +kernel
theorem dX0_worth_93 : decode cX0_worth 93 = .ok (.goto 11, 3) := by decide +kernel
theorem dX0_worth_96 : decode cX0_worth 96 = .ok (.iload_n 1, 1) := by decide +kernel
theorem dX0_worth_97 : decode cX0_worth 97 = .ok (.iload_n 2, 1) := by decide +kernel
theorem dX0_worth_98 : decode cX0_worth 98 = .ok (.iload_n 3, 1) := by decide +kernel
theorem dX0_worth_99 : decode cX0_worth 99 = .ok (.iload 4, 2) := by decide +kernel
theorem dX0_worth_101 : decode cX0_worth 101 = .ok (.invokestatic 13, 3) := by decide +kernel
theorem dX0_worth_104 : decode cX0_worth 104 = .ok (.ireturn, 1) := by decide +kernel
theorem dX0_worth_105 : decode cX0_worth 105 = .ok (.iload_n 1, 1) := by decide +kernel
theorem dX0_worth_106 : decode cX0_worth 106 = .ok (.iload_n 2, 1) := by decide +kernel
theorem dX0_worth_107 : decode cX0_worth 107 = .ok (.iload_n 3, 1) := by decide +kernel
theorem dX0_worth_108 : decode cX0_worth 108 = .ok (.invokestatic 16, 3) := by decide +kernel
theorem dX0_worth_111 : decode cX0_worth 111 = .ok (.bipush 9, 2) := by decide +kernel
theorem dX0_worth_113 : decode cX0_worth 113 = .ok (.imul, 1) := by decide +kernel
theorem dX0_worth_114 : decode cX0_worth 114 = .ok (.bipush 10, 2) := by decide +kernel
theorem dX0_worth_116 : decode cX0_worth 116 = .ok (.idiv, 1) := by decide +kernel
theorem dX0_worth_117 : decode cX0_worth 117 = .ok (.ireturn, 1) := by decide +kernel
theorem dX0_worth_118 : decode cX0_worth 118 = .ok (.iload_n 1, 1) := by decide +kernel
theorem dX0_worth_119 : decode cX0_worth 119 = .ok (.iload_n 2, 1) := by decide +kernel
theorem dX0_worth_120 : decode cX0_worth 120 = .ok (.iload_n 3, 1) := by decide +kernel
theorem dX0_worth_121 : decode cX0_worth 121 = .ok (.invokestatic 16, 3) := by decide +kernel
theorem dX0_worth_124 : decode cX0_worth 124 = .ok (.ireturn, 1) := by decide +kernel
theorem dX0_plain_0 : decode cX0_plain 0 = .ok (.iload_n 0, 1) := by decide +kernel
theorem dX0_plain_1 : decode cX0_plain 1 = .ok (.iconst 2, 1) := by decide +kernel
theorem dX0_plain_2 : decode cX0_plain 2 = .ok (.iload_n 1, 1) := by decide +kernel
theorem dX0_plain_3 : decode cX0_plain 3 = .ok (.imul, 1) := by decide +kernel
theorem dX0_plain_4 : decode cX0_plain 4 = .ok (.isub, 1) := by decide +kernel
theorem dX0_plain_5 : decode cX0_plain 5 = .ok (.istore_n 3, 1) := by decide +kernel
theorem dX0_plain_6 : decode cX0_plain 6 = .ok (.iload_n 2, 1) := by decide +kernel
theorem dX0_plain_7 : decode cX0_plain 7 = .ok (.ifCond .eq 9, 3) := by decide +kernel
theorem dX0_plain_10 : decode cX0_plain 10 = .ok (.iload_n 3, 1) := by decide +kernel
theorem dX0_plain_11 : decode cX0_plain 11 = .ok (.iconst 2, 1) := by decide +kernel
theorem dX0_plain_12 : decode cX0_plain 12 = .ok (.idiv, 1) := by decide +kernel
theorem dX0_plain_13 : decode cX0_plain 13 = .ok (.goto 4, 3) := by decide +kernel
theorem dX0_plain_16 : decode cX0_plain 16 = .ok (.iload_n 3, 1) := by decide +kernel
theorem dX0_plain_17 : decode cX0_plain 17 = .ok (.ireturn, 1) := by decide +kernel
theorem dX0_pun_0 : decode cX0_pun 0 = .ok (.iload_n 0, 1) := by decide +kernel
theorem dX0_pun_1 : decode cX0_pun 1 = .ok (.iload_n 1, 1) := by decide +kernel
theorem dX0_pun_2 : decode cX0_pun 2 = .ok (.iload_n 2, 1) := by decide +kernel
theorem dX0_pun_3 : decode cX0_pun 3 = .ok (.invokestatic 16, 3) := by decide +kernel
theorem dX0_pun_6 : decode cX0_pun 6 = .ok (.iconst 2, 1) := by decide +kernel
theorem dX0_pun_7 : decode cX0_pun 7 = .ok (.idiv, 1) := by decide +kernel
theorem dX0_pun_8 : decode cX0_pun 8 = .ok (.iload_n 3, 1) := by decide +kernel
theorem dX0_pun_9 : decode cX0_pun 9 = .ok (.iadd, 1) := by decide +kernel
theorem dX0_pun_10 : decode cX0_pun 10 = .ok (.ireturn, 1) := by decide +kernel
theorem dX0_yarn_0 : decode cX0_yarn 0 = .ok (.iload_n 0, 1) := by decide +kernel
theorem dX0_yarn_1 : decode cX0_yarn 1 = .ok (.iload_n 1, 1) := by decide +kernel
theorem dX0_yarn_2 : decode cX0_yarn 2 = .ok (.iload_n 2, 1) := by decide +kernel
theorem dX0_yarn_3 : decode cX0_yarn 3 = .ok (.invokestatic 16, 3) := by decide +kernel
theorem dX0_yarn_6 : decode cX0_yarn 6 = .ok (.iconst 2, 1) := by decide +kernel
theorem dX0_yarn_7 : decode cX0_yarn 7 = .ok (.iload_n 3, 1) := by decide +kernel
theorem dX0_yarn_8 : decode cX0_yarn 8 = .ok (.imul, 1) := by decide +kernel
theorem dX0_yarn_9 : decode cX0_yarn 9 = .ok (.iadd, 1) := by decide +kernel
theorem dX0_yarn_10 : decode cX0_yarn 10 = .ok (.ireturn, 1) := by decide +kernel
theorem dX0_wornMore_0 : decode cX0_wornMore 0 = .ok (.iload_n 0, 1) := by decide +kernel
theorem dX0_wornMore_1 : decode cX0_wornMore 1 = .ok (.tableswitch 33 2 4 #[27, 31, 29], 27) := by decide +kernel
theorem dX0_wornMore_28 : decode cX0_wornMore 28 = .ok (.iconst 2, 1) := by decide +kernel
theorem dX0_wornMore_29 : decode cX0_wornMore 29 = .ok (.ireturn, 1) := by decide +kernel
theorem dX0_wornMore_30 : decode cX0_wornMore 30 = .ok (.iconst 2, 1) := by decide +kernel
theorem dX0_wornMore_31 : decode cX0_wornMore 31 = .ok (.ireturn, 1) := by decide +kernel
theorem dX0_wornMore_32 : decode cX0_wornMore 32 = .ok (.iconst 0, 1) := by decide +kernel
theorem dX0_wornMore_33 : decode cX0_wornMore 33 = .ok (.ireturn, 1) := by decide +kernel
theorem dX0_wornMore_34 : decode cX0_wornMore 34 = .ok (.iconst 1, 1) := by decide +kernel
theorem dX0_wornMore_35 : decode cX0_wornMore 35 = .ok (.ireturn, 1) := by decide +kernel
theorem dX0_tellsOn_0 : decode cX0_tellsOn 0 = .ok (.iload_n 0, 1) := by decide +kernel
theorem dX0_tellsOn_1 : decode cX0_tellsOn 1 = .ok (.tableswitch 47 1 5 #[35, 47, 37, 39, 41], 35) := by decide +kernel
theorem dX0_tellsOn_36 : decode cX0_tellsOn 36 = .ok (.iconst 2, 1) := by decide +kernel
theorem dX0_tellsOn_37 : decode cX0_tellsOn 37 = .ok (.ireturn, 1) := by decide +kernel
theorem dX0_tellsOn_38 : decode cX0_tellsOn 38 = .ok (.iconst 2, 1) := by decide +kernel
theorem dX0_tellsOn_39 : decode cX0_tellsOn 39 = .ok (.ireturn, 1) := by decide +kernel
theorem dX0_tellsOn_40 : decode cX0_tellsOn 40 = .ok (.iconst 0, 1) := by decide +kernel
theorem dX0_tellsOn_41 : decode cX0_tellsOn 41 = .ok (.ireturn, 1) := by decide +kernel
theorem dX0_tellsOn_42 : decode cX0_tellsOn 42 = .ok (.iconst 1, 1) := by decide +kernel
theorem dX0_tellsOn_43 : decode cX0_tellsOn 43 = .ok (.iload_n 1, 1) := by decide +kernel
theorem dX0_tellsOn_44 : decode cX0_tellsOn 44 = .ok (.iconst 3, 1) := by decide +kernel
theorem dX0_tellsOn_45 : decode cX0_tellsOn 45 = .ok (.idiv, 1) := by decide +kernel
theorem dX0_tellsOn_46 : decode cX0_tellsOn 46 = .ok (.iadd, 1) := by decide +kernel
theorem dX0_tellsOn_47 : decode cX0_tellsOn 47 = .ok (.ireturn, 1) := by decide +kernel
theorem dX0_tellsOn_48 : decode cX0_tellsOn 48 = .ok (.iconst 1, 1) := by decide +kernel
theorem dX0_tellsOn_49 : decode cX0_tellsOn 49 = .ok (.ireturn, 1) := by decide +kernel
theorem dX0_isOne_0 : decode cX0_isOne 0 = .ok (.iload_n 0, 1) := by decide +kernel
theorem dX0_isOne_1 : decode cX0_isOne 1 = .ok (.iload_n 1, 1) := by decide +kernel
theorem dX0_isOne_2 : decode cX0_isOne 2 = .ok (.if_icmp .eq 7, 3) := by decide +kernel
theorem dX0_isOne_5 : decode cX0_isOne 5 = .ok (.iload_n 1, 1) := by decide +kernel
theorem dX0_isOne_6 : decode cX0_isOne 6 = .ok (.ifCond .ne 5, 3) := by decide +kernel
theorem dX0_isOne_9 : decode cX0_isOne 9 = .ok (.iconst 1, 1) := by decide +kernel
theorem dX0_isOne_10 : decode cX0_isOne 10 = .ok (.ireturn, 1) := by decide +kernel
theorem dX0_isOne_11 : decode cX0_isOne 11 = .ok (.iload_n 0, 1) := by decide +kernel
theorem dX0_isOne_12 : decode cX0_isOne 12 = .ok (.iconst 3, 1) := by decide +kernel
theorem dX0_isOne_13 : decode cX0_isOne 13 = .ok (.if_icmp .ne 8, 3) := by decide +kernel
theorem dX0_isOne_16 : decode cX0_isOne 16 = .ok (.iload_n 1, 1) := by decide +kernel
theorem dX0_isOne_17 : decode cX0_isOne 17 = .ok (.iconst 1, 1) := by decide +kernel
theorem dX0_isOne_18 : decode cX0_isOne 18 = .ok (.if_icmp .eq 13, 3) := by decide +kernel
theorem dX0_isOne_21 : decode cX0_isOne 21 = .ok (.iload_n 0, 1) := by decide +kernel
theorem dX0_isOne_22 : decode cX0_isOne 22 = .ok (.iconst 4, 1) := by decide +kernel
theorem dX0_isOne_23 : decode cX0_isOne 23 = .ok (.if_icmp .ne 12, 3) := by decide +kernel
theorem dX0_isOne_26 : decode cX0_isOne 26 = .ok (.iload_n 1, 1) := by decide +kernel
theorem dX0_isOne_27 : decode cX0_isOne 27 = .ok (.iconst 2, 1) := by decide +kernel
theorem dX0_isOne_28 : decode cX0_isOne 28 = .ok (.if_icmp .ne 7, 3) := by decide +kernel
theorem dX0_isOne_31 : decode cX0_isOne 31 = .ok (.iconst 1, 1) := by decide +kernel
theorem dX0_isOne_32 : decode cX0_isOne 32 = .ok (.goto 4, 3) := by decide +kernel
theorem dX0_isOne_35 : decode cX0_isOne 35 = .ok (.iconst 0, 1) := by decide +kernel
theorem dX0_isOne_36 : decode cX0_isOne 36 = .ok (.ireturn, 1) := by decide +kernel
theorem dX1_init_0 : decode cX1_init 0 = .ok (.aload_n 0, 1) := by decide +kernel
theorem dX1_init_1 : decode cX1_init 1 = .ok (.invokespecial 5, 3) := by decide +kernel
theorem dX1_init_4 : decode cX1_init 4 = .ok (.aload_n 0, 1) := by decide +kernel
theorem dX1_init_5 : decode cX1_init 5 = .ok (.iconst 0, 1) := by decide +kernel
theorem dX1_init_6 : decode cX1_init 6 = .ok (.putfield 11, 3) := by decide +kernel
theorem dX1_init_9 : decode cX1_init 9 = .ok (.aload_n 0, 1) := by decide +kernel
theorem dX1_init_10 : decode cX1_init 10 = .ok (.sipush 960, 3) := by decide +kernel
theorem dX1_init_13 : decode cX1_init 13 = .ok (.newarray .int, 2) := by decide +kernel
theorem dX1_init_15 : decode cX1_init 15 = .ok (.putfield 15, 3) := by decide +kernel
theorem dX1_init_18 : decode cX1_init 18 = .ok (.aload_n 0, 1) := by decide +kernel
theorem dX1_init_19 : decode cX1_init 19 = .ok (.bipush 18, 2) := by decide +kernel
theorem dX1_init_21 : decode cX1_init 21 = .ok (.newarray .int, 2) := by decide +kernel
theorem dX1_init_23 : decode cX1_init 23 = .ok (.putfield 19, 3) := by decide +kernel
theorem dX1_init_26 : decode cX1_init 26 = .ok (.aload_n 0, 1) := by decide +kernel
theorem dX1_init_27 : decode cX1_init 27 = .ok (.bipush 6, 2) := by decide +kernel
theorem dX1_init_29 : decode cX1_init 29 = .ok (.newarray .int, 2) := by decide +kernel
theorem dX1_init_31 : decode cX1_init 31 = .ok (.putfield 22, 3) := by decide +kernel
theorem dX1_init_34 : decode cX1_init 34 = .ok (.aload_n 0, 1) := by decide +kernel
theorem dX1_init_35 : decode cX1_init 35 = .ok (.bipush 64, 2) := by decide +kernel
theorem dX1_init_37 : decode cX1_init 37 = .ok (.newarray .int, 2) := by decide +kernel
theorem dX1_init_39 : decode cX1_init 39 = .ok (.putfield 25, 3) := by decide +kernel
theorem dX1_init_42 : decode cX1_init 42 = .ok (.return_, 1) := by decide +kernel
theorem dX1_keep_0 : decode cX1_keep 0 = .ok (.aload_n 0, 1) := by decide +kernel
theorem dX1_keep_1 : decode cX1_keep 1 = .ok (.getfield 11, 3) := by decide +kernel
theorem dX1_keep_4 : decode cX1_keep 4 = .ok (.bipush 6, 2) := by decide +kernel
theorem dX1_keep_6 : decode cX1_keep 6 = .ok (.if_icmp .ge 17, 3) := by decide +kernel
theorem dX1_keep_9 : decode cX1_keep 9 = .ok (.aload_n 1, 1) := by decide +kernel
theorem dX1_keep_10 : decode cX1_keep 10 = .ok (.arraylength, 1) := by decide +kernel
theorem dX1_keep_11 : decode cX1_keep 11 = .ok (.sipush 160, 3) := by decide +kernel
theorem dX1_keep_14 : decode cX1_keep 14 = .ok (.if_icmp .lt 9, 3) := by decide +kernel
theorem dX1_keep_17 : decode cX1_keep 17 = .ok (.aload_n 2, 1) := by decide +kernel
theorem dX1_keep_18 : decode cX1_keep 18 = .ok (.arraylength, 1) := by decide +kernel
theorem dX1_keep_19 : decode cX1_keep 19 = .ok (.iconst 3, 1) := by decide +kernel
theorem dX1_keep_20 : decode cX1_keep 20 = .ok (.if_icmp .ge 6, 3) := by decide +kernel
theorem dX1_keep_23 : decode cX1_keep 23 = .ok (.bipush (-4), 2) := by decide +kernel
theorem dX1_keep_25 : decode cX1_keep 25 = .ok (.ireturn, 1) := by decide +kernel
theorem dX1_keep_26 : decode cX1_keep 26 = .ok (.aload_n 1, 1) := by decide +kernel
theorem dX1_keep_27 : decode cX1_keep 27 = .ok (.iconst 0, 1) := by decide +kernel
theorem dX1_keep_28 : decode cX1_keep 28 = .ok (.aload_n 0, 1) := by decide +kernel
theorem dX1_keep_29 : decode cX1_keep 29 = .ok (.getfield 15, 3) := by decide +kernel
theorem dX1_keep_32 : decode cX1_keep 32 = .ok (.aload_n 0, 1) := by decide +kernel
theorem dX1_keep_33 : decode cX1_keep 33 = .ok (.getfield 11, 3) := by decide +kernel
theorem dX1_keep_36 : decode cX1_keep 36 = .ok (.sipush 160, 3) := by decide +kernel
theorem dX1_keep_39 : decode cX1_keep 39 = .ok (.imul, 1) := by decide +kernel
theorem dX1_keep_40 : decode cX1_keep 40 = .ok (.sipush 160, 3) := by decide +kernel
theorem dX1_keep_43 : decode cX1_keep 43 = .ok (.invokestatic 28, 3) := by decide +kernel
theorem dX1_keep_46 : decode cX1_keep 46 = .ok (.aload_n 2, 1) := by decide +kernel
theorem dX1_keep_47 : decode cX1_keep 47 = .ok (.iconst 0, 1) := by decide +kernel
theorem dX1_keep_48 : decode cX1_keep 48 = .ok (.aload_n 0, 1) := by decide +kernel
theorem dX1_keep_49 : decode cX1_keep 49 = .ok (.getfield 19, 3) := by decide +kernel
theorem dX1_keep_52 : decode cX1_keep 52 = .ok (.aload_n 0, 1) := by decide +kernel
theorem dX1_keep_53 : decode cX1_keep 53 = .ok (.getfield 11, 3) := by decide +kernel
theorem dX1_keep_56 : decode cX1_keep 56 = .ok (.iconst 3, 1) := by decide +kernel
theorem dX1_keep_57 : decode cX1_keep 57 = .ok (.imul, 1) := by decide +kernel
theorem dX1_keep_58 : decode cX1_keep 58 = .ok (.iconst 3, 1) := by decide +kernel
theorem dX1_keep_59 : decode cX1_keep 59 = .ok (.invokestatic 28, 3) := by decide +kernel
theorem dX1_keep_62 : decode cX1_keep 62 = .ok (.aload_n 0, 1) := by decide +kernel
theorem dX1_keep_63 : decode cX1_keep 63 = .ok (.dup, 1) := by decide +kernel
theorem dX1_keep_64 : decode cX1_keep 64 = .ok (.getfield 11, 3) := by decide +kernel
theorem dX1_keep_67 : decode cX1_keep 67 = .ok (.iconst 1, 1) := by decide +kernel
theorem dX1_keep_68 : decode cX1_keep 68 = .ok (.iadd, 1) := by decide +kernel
theorem dX1_keep_69 : decode cX1_keep 69 = .ok (.putfield 11, 3) := by decide +kernel
theorem dX1_keep_72 : decode cX1_keep 72 = .ok (.aload_n 0, 1) := by decide +kernel
theorem dX1_keep_73 : decode cX1_keep 73 = .ok (.getfield 11, 3) := by decide +kernel
theorem dX1_keep_76 : decode cX1_keep 76 = .ok (.iconst 1, 1) := by decide +kernel
theorem dX1_keep_77 : decode cX1_keep 77 = .ok (.isub, 1) := by decide +kernel
theorem dX1_keep_78 : decode cX1_keep 78 = .ok (.ireturn, 1) := by decide +kernel
theorem dX1_answer_0 : decode cX1_answer 0 = .ok (.iload_n 1, 1) := by decide +kernel
theorem dX1_answer_1 : decode cX1_answer 1 = .ok (.iconst 0, 1) := by decide +kernel
theorem dX1_answer_2 : decode cX1_answer 2 = .ok (.aload_n 0, 1) := by decide +kernel
theorem dX1_answer_3 : decode cX1_answer 3 = .ok (.getfield 11, 3) := by decide +kernel
theorem dX1_answer_6 : decode cX1_answer 6 = .ok (.iconst 1, 1) := by decide +kernel
theorem dX1_answer_7 : decode cX1_answer 7 = .ok (.isub, 1) := by decide +kernel
theorem dX1_answer_8 : decode cX1_answer 8 = .ok (.invokestatic 34, 3) := by decide +kernel
theorem dX1_answer_11 : decode cX1_answer 11 = .ok (.ifCond .eq 12, 3) := by decide +kernel
theorem dX1_answer_14 : decode cX1_answer 14 = .ok (.iload_n 2, 1) := by decide +kernel
theorem dX1_answer_15 : decode cX1_answer 15 = .ok (.iconst 0, 1) := by decide +kernel
theorem dX1_answer_16 : decode cX1_answer 16 = .ok (.iconst 2, 1) := by decide +kernel
theorem dX1_answer_17 : decode cX1_answer 17 = .ok (.invokestatic 34, 3) := by decide +kernel
theorem dX1_answer_20 : decode cX1_answer 20 = .ok (.ifCond .ne 5, 3) := by decide +kernel
theorem dX1_answer_23 : decode cX1_answer 23 = .ok (.iconst 0, 1) := by decide +kernel
theorem dX1_answer_24 : decode cX1_answer 24 = .ok (.ireturn, 1) := by decide +kernel
theorem dX1_answer_25 : decode cX1_answer 25 = .ok (.iload_n 1, 1) := by decide +kernel
theorem dX1_answer_26 : decode cX1_answer 26 = .ok (.sipush 160, 3) := by decide +kernel
theorem dX1_answer_29 : decode cX1_answer 29 = .ok (.imul, 1) := by decide +kernel
theorem dX1_answer_30 : decode cX1_answer 30 = .ok (.istore_n 3, 1) := by decide +kernel
theorem dX1_answer_31 : decode cX1_answer 31 = .ok (.iload_n 2, 1) := by decide +kernel
theorem dX1_answer_32 : decode cX1_answer 32 = .ok (.ifCond .ne 7, 3) := by decide +kernel
theorem dX1_answer_35 : decode cX1_answer 35 = .ok (.iconst 0, 1) := by decide +kernel
theorem dX1_answer_36 : decode cX1_answer 36 = .ok (.goto 15, 3) := by decide +kernel
theorem dX1_answer_39 : decode cX1_answer 39 = .ok (.aload_n 0, 1) := by decide +kernel
theorem dX1_answer_40 : decode cX1_answer 40 = .ok (.getfield 19, 3) := by decide +kernel
theorem dX1_answer_43 : decode cX1_answer 43 = .ok (.iload_n 1, 1) := by decide +kernel
theorem dX1_answer_44 : decode cX1_answer 44 = .ok (.iconst 3, 1) := by decide +kernel
theorem dX1_answer_45 : decode cX1_answer 45 = .ok (.imul, 1) := by decide +kernel
theorem dX1_answer_46 : decode cX1_answer 46 = .ok (.iload_n 2, 1) := by decide +kernel
theorem dX1_answer_47 : decode cX1_answer 47 = .ok (.iadd, 1) := by decide +kernel
theorem dX1_answer_48 : decode cX1_answer 48 = .ok (.iconst 1, 1) := by decide +kernel
theorem dX1_answer_49 : decode cX1_answer 49 = .ok (.isub, 1) := by decide +kernel
theorem dX1_answer_50 : decode cX1_answer 50 = .ok (.iaload, 1) := by decide +kernel
theorem dX1_answer_51 : decode cX1_answer 51 = .ok (.istore 4, 2) := by decide +kernel
theorem dX1_answer_53 : decode cX1_answer 53 = .ok (.aload_n 0, 1) := by decide +kernel
theorem dX1_answer_54 : decode cX1_answer 54 = .ok (.getfield 19, 3) := by decide +kernel
theorem dX1_answer_57 : decode cX1_answer 57 = .ok (.iload_n 1, 1) := by decide +kernel
theorem dX1_answer_58 : decode cX1_answer 58 = .ok (.iconst 3, 1) := by decide +kernel
theorem dX1_answer_59 : decode cX1_answer 59 = .ok (.imul, 1) := by decide +kernel
theorem dX1_answer_60 : decode cX1_answer 60 = .ok (.iload_n 2, 1) := by decide +kernel
theorem dX1_answer_61 : decode cX1_answer 61 = .ok (.iadd, 1) := by decide +kernel
theorem dX1_answer_62 : decode cX1_answer 62 = .ok (.iaload, 1) := by decide +kernel
theorem dX1_answer_63 : decode cX1_answer 63 = .ok (.istore 5, 2) := by decide +kernel
theorem dX1_answer_65 : decode cX1_answer 65 = .ok (.iconst 0, 1) := by decide +kernel
theorem dX1_answer_66 : decode cX1_answer 66 = .ok (.istore 6, 2) := by decide +kernel
theorem dX1_answer_68 : decode cX1_answer 68 = .ok (.iload_n 3, 1) := by decide +kernel
theorem dX1_answer_69 : decode cX1_answer 69 = .ok (.iload 4, 2) := by decide +kernel
theorem dX1_answer_71 : decode cX1_answer 71 = .ok (.iadd, 1) := by decide +kernel
theorem dX1_answer_72 : decode cX1_answer 72 = .ok (.istore 7, 2) := by decide +kernel
theorem dX1_answer_74 : decode cX1_answer 74 = .ok (.iload 7, 2) := by decide +kernel
theorem dX1_answer_76 : decode cX1_answer 76 = .ok (.iload_n 3, 1) := by decide +kernel
theorem dX1_answer_77 : decode cX1_answer 77 = .ok (.iload 5, 2) := by decide +kernel
theorem dX1_answer_79 : decode cX1_answer 79 = .ok (.iadd, 1) := by decide +kernel
theorem dX1_answer_80 : decode cX1_answer 80 = .ok (.if_icmp .ge 161, 3) := by decide +kernel
theorem dX1_answer_83 : decode cX1_answer 83 = .ok (.aload_n 0, 1) := by decide +kernel
theorem dX1_answer_84 : decode cX1_answer 84 = .ok (.getfield 15, 3) := by decide +kernel
theorem dX1_answer_87 : decode cX1_answer 87 = .ok (.iload 7, 2) := by decide +kernel
theorem dX1_answer_89 : decode cX1_answer 89 = .ok (.iaload, 1) := by decide +kernel
theorem dX1_answer_90 : decode cX1_answer 90 = .ok (.istore 8, 2) := by decide +kernel
theorem dX1_answer_92 : decode cX1_answer 92 = .ok (.iload 8, 2) := by decide +kernel
theorem dX1_answer_94 : decode cX1_answer 94 = .ok (.bipush (-6), 2) := by decide +kernel
theorem dX1_answer_96 : decode cX1_answer 96 = .ok (.if_icmp .lt 42, 3) := by decide +kernel
theorem dX1_answer_99 : decode cX1_answer 99 = .ok (.iload 6, 2) := by decide +kernel
theorem dX1_answer_101 : decode cX1_answer 101 = .ok (.bipush 64, 2) := by decide +kernel
theorem dX1_answer_103 : decode cX1_answer 103 = .ok (.if_icmp .ge 132, 3) := by decide +kernel
theorem dX1_answer_106 : decode cX1_answer 106 = .ok (.aload_n 0, 1) := by decide +kernel
theorem dX1_answer_107 : decode cX1_answer 107 = .ok (.getfield 25, 3) := by decide +kernel
theorem dX1_answer_110 : decode cX1_answer 110 = .ok (.iload 6, 2) := by decide +kernel
theorem dX1_answer_112 : decode cX1_answer 112 = .ok (.iload 8, 2) := by decide +kernel
theorem dX1_answer_114 : decode cX1_answer 114 = .ok (.ifCond .lt 8, 3) := by decide +kernel
theorem dX1_answer_117 : decode cX1_answer 117 = .ok (.iload 8, 2) := by decide +kernel
theorem dX1_answer_119 : decode cX1_answer 119 = .ok (.goto 12, 3) := by decide +kernel
theorem dX1_answer_122 : decode cX1_answer 122 = .ok (.aload_n 0, 1) := by decide +kernel
theorem dX1_answer_123 : decode cX1_answer 123 = .ok (.getfield 22, 3) := by decide +kernel
theorem dX1_answer_126 : decode cX1_answer 126 = .ok (.iconst (-1), 1) := by decide +kernel
theorem dX1_answer_127 : decode cX1_answer 127 = .ok (.iload 8, 2) := by decide +kernel
theorem dX1_answer_129 : decode cX1_answer 129 = .ok (.isub, 1) := by decide +kernel
theorem dX1_answer_130 : decode cX1_answer 130 = .ok (.iaload, 1) := by decide +kernel
theorem dX1_answer_131 : decode cX1_answer 131 = .ok (.iastore, 1) := by decide +kernel
theorem dX1_answer_132 : decode cX1_answer 132 = .ok (.iinc 6 1, 3) := by decide +kernel
theorem dX1_answer_135 : decode cX1_answer 135 = .ok (.goto 100, 3) := by decide +kernel
theorem dX1_answer_138 : decode cX1_answer 138 = .ok (.iload 8, 2) := by decide +kernel
theorem dX1_answer_140 : decode cX1_answer 140 = .ok (.bipush (-11), 2) := by decide +kernel
theorem dX1_answer_142 : decode cX1_answer 142 = .ok (.if_icmp .lt 54, 3) := by decide +kernel
theorem dX1_answer_145 : decode cX1_answer 145 = .ok (.iload 6, 2) := by decide +kernel
theorem dX1_answer_147 : decode cX1_answer 147 = .ok (.ifCond .le 88, 3) := by decide +kernel
theorem dX1_answer_150 : decode cX1_answer 150 = .ok (.aload_n 0, 1) := by decide +kernel
theorem dX1_answer_151 : decode cX1_answer 151 = .ok (.getfield 25, 3) := by decide +kernel
theorem dX1_answer_154 : decode cX1_answer 154 = .ok (.iload 6, 2) := by decide +kernel
theorem dX1_answer_156 : decode cX1_answer 156 = .ok (.iconst 1, 1) := by decide +kernel
theorem dX1_answer_157 : decode cX1_answer 157 = .ok (.isub, 1) := by decide +kernel
theorem dX1_answer_158 : decode cX1_answer 158 = .ok (.iaload, 1) := by decide +kernel
theorem dX1_answer_159 : decode cX1_answer 159 = .ok (.istore 9, 2) := by decide +kernel
theorem dX1_answer_161 : decode cX1_answer 161 = .ok (.aload_n 0, 1) := by decide +kernel
theorem dX1_answer_162 : decode cX1_answer 162 = .ok (.getfield 25, 3) := by decide +kernel
theorem dX1_answer_165 : decode cX1_answer 165 = .ok (.iload 6, 2) := by decide +kernel
theorem dX1_answer_167 : decode cX1_answer 167 = .ok (.iconst 1, 1) := by decide +kernel
theorem dX1_answer_168 : decode cX1_answer 168 = .ok (.isub, 1) := by decide +kernel
theorem dX1_answer_169 : decode cX1_answer 169 = .ok (.iload 8, 2) := by decide +kernel
theorem dX1_answer_171 : decode cX1_answer 171 = .ok (.bipush (-11), 2) := by decide +kernel
theorem dX1_answer_173 : decode cX1_answer 173 = .ok (.if_icmp .ne 9, 3) := by decide +kernel
theorem dX1_answer_176 : decode cX1_answer 176 = .ok (.iload 9, 2) := by decide +kernel
theorem dX1_answer_178 : decode cX1_answer 178 = .ok (.ineg, 1) := by decide +kernel
theorem dX1_answer_179 : decode cX1_answer 179 = .ok (.goto 13, 3) := by decide +kernel
theorem dX1_answer_182 : decode cX1_answer 182 = .ok (.iload 9, 2) := by decide +kernel
theorem dX1_answer_184 : decode cX1_answer 184 = .ok (.ifCond .ne 7, 3) := by decide +kernel
theorem dX1_answer_187 : decode cX1_answer 187 = .ok (.iconst 1, 1) := by decide +kernel
theorem dX1_answer_188 : decode cX1_answer 188 = .ok (.goto 4, 3) := by decide +kernel
theorem dX1_answer_191 : decode cX1_answer 191 = .ok (.iconst 0, 1) := by decide +kernel
theorem dX1_answer_192 : decode cX1_answer 192 = .ok (.iastore, 1) := by decide +kernel
theorem dX1_answer_193 : decode cX1_answer 193 = .ok (.goto 42, 3) := by decide +kernel
theorem dX1_answer_196 : decode cX1_answer 196 = .ok (.iload 6, 2) := by decide +kernel
theorem dX1_answer_198 : decode cX1_answer 198 = .ok (.iconst 1, 1) := by decide +kernel
theorem dX1_answer_199 : decode cX1_answer 199 = .ok (.if_icmp .le 36, 3) := by decide +kernel
theorem dX1_answer_202 : decode cX1_answer 202 = .ok (.iinc 6 (-1), 3) := by decide +kernel
theorem dX1_answer_205 : decode cX1_answer 205 = .ok (.aload_n 0, 1) := by decide +kernel
theorem dX1_answer_206 : decode cX1_answer 206 = .ok (.getfield 25, 3) := by decide +kernel
theorem dX1_answer_209 : decode cX1_answer 209 = .ok (.iload 6, 2) := by decide +kernel
theorem dX1_answer_211 : decode cX1_answer 211 = .ok (.iconst 1, 1) := by decide +kernel
theorem dX1_answer_212 : decode cX1_answer 212 = .ok (.isub, 1) := by decide +kernel
theorem dX1_answer_213 : decode cX1_answer 213 = .ok (.iload 8, 2) := by decide +kernel
theorem dX1_answer_215 : decode cX1_answer 215 = .ok (.aload_n 0, 1) := by decide +kernel
theorem dX1_answer_216 : decode cX1_answer 216 = .ok (.getfield 25, 3) := by decide +kernel
theorem dX1_answer_219 : decode cX1_answer 219 = .ok (.iload 6, 2) := by decide +kernel
theorem dX1_answer_221 : decode cX1_answer 221 = .ok (.iconst 1, 1) := by decide +kernel
theorem dX1_answer_222 : decode cX1_answer 222 = .ok (.isub, 1) := by decide +kernel
theorem dX1_answer_223 : decode cX1_answer 223 = .ok (.iaload, 1) := by decide +kernel
theorem dX1_answer_224 : decode cX1_answer 224 = .ok (.aload_n 0, 1) := by decide +kernel
theorem dX1_answer_225 : decode cX1_answer 225 = .ok (.getfield 25, 3) := by decide +kernel
theorem dX1_answer_228 : decode cX1_answer 228 = .ok (.iload 6, 2) := by decide +kernel
theorem dX1_answer_230 : decode cX1_answer 230 = .ok (.iaload, 1) := by decide +kernel
theorem dX1_answer_231 : decode cX1_answer 231 = .ok (.invokestatic 38, 3) := by decide +kernel
theorem dX1_answer_234 : decode cX1_answer 234 = .ok (.iastore, 1) := by decide +kernel
theorem dX1_answer_235 : decode cX1_answer 235 = .ok (.iinc 7 1, 3) := by decide +kernel
theorem dX1_answer_238 : decode cX1_answer 238 = .ok (.goto (-164), 3) := by decide +kernel
theorem dX1_answer_241 : decode cX1_answer 241 = .ok (.iload 6, 2) := by decide +kernel
theorem dX1_answer_243 : decode cX1_answer 243 = .ok (.ifCond .le 15, 3) := by decide +kernel
theorem dX1_answer_246 : decode cX1_answer 246 = .ok (.aload_n 0, 1) := by decide +kernel
theorem dX1_answer_247 : decode cX1_answer 247 = .ok (.getfield 25, 3) := by decide +kernel
theorem dX1_answer_250 : decode cX1_answer 250 = .ok (.iload 6, 2) := by decide +kernel
theorem dX1_answer_252 : decode cX1_answer 252 = .ok (.iconst 1, 1) := by decide +kernel
theorem dX1_answer_253 : decode cX1_answer 253 = .ok (.isub, 1) := by decide +kernel
theorem dX1_answer_254 : decode cX1_answer 254 = .ok (.iaload, 1) := by decide +kernel
theorem dX1_answer_255 : decode cX1_answer 255 = .ok (.goto 4, 3) := by decide +kernel
theorem dX1_answer_258 : decode cX1_answer 258 = .ok (.iconst 0, 1) := by decide +kernel
theorem dX1_answer_259 : decode cX1_answer 259 = .ok (.ireturn, 1) := by decide +kernel
theorem dX1_joined_0 : decode cX1_joined 0 = .ok (.iload_n 0, 1) := by decide +kernel
theorem dX1_joined_1 : decode cX1_joined 1 = .ok (.tableswitch 97 (-17) (-12) #[93, 89, 78, 67, 53, 39], 39) := by decide +kernel
theorem dX1_joined_40 : decode cX1_joined 40 = .ok (.iload_n 1, 1) := by decide +kernel
theorem dX1_joined_41 : decode cX1_joined 41 = .ok (.ifCond .ne 7, 3) := by decide +kernel
theorem dX1_joined_44 : decode cX1_joined 44 = .ok (.iload_n 2, 1) := by decide +kernel
theorem dX1_joined_45 : decode cX1_joined 45 = .ok (.ifCond .eq 7, 3) := by decide +kernel
theorem dX1_joined_48 : decode cX1_joined 48 = .ok (.iconst 1, 1) := by decide +kernel
theorem dX1_joined_49 : decode cX1_joined 49 = .ok (.goto 4, 3) := by decide +kernel
theorem dX1_joined_52 : decode cX1_joined 52 = .ok (.iconst 0, 1) := by decide +kernel
theorem dX1_joined_53 : decode cX1_joined 53 = .ok (.ireturn, 1) := by decide +kernel
theorem dX1_joined_54 : decode cX1_joined 54 = .ok (.iload_n 1, 1) := by decide +kernel
theorem dX1_joined_55 : decode cX1_joined 55 = .ok (.ifCond .eq 11, 3) := by decide +kernel
theorem dX1_joined_58 : decode cX1_joined 58 = .ok (.iload_n 2, 1) := by decide +kernel
theorem dX1_joined_59 : decode cX1_joined 59 = .ok (.ifCond .eq 7, 3) := by decide +kernel
theorem dX1_joined_62 : decode cX1_joined 62 = .ok (.iconst 1, 1) := by decide +kernel
theorem dX1_joined_63 : decode cX1_joined 63 = .ok (.goto 4, 3) := by decide +kernel
theorem dX1_joined_66 : decode cX1_joined 66 = .ok (.iconst 0, 1) := by decide +kernel
theorem dX1_joined_67 : decode cX1_joined 67 = .ok (.ireturn, 1) := by decide +kernel
theorem dX1_joined_68 : decode cX1_joined 68 = .ok (.iload_n 1, 1) := by decide +kernel
theorem dX1_joined_69 : decode cX1_joined 69 = .ok (.iload_n 2, 1) := by decide +kernel
theorem dX1_joined_70 : decode cX1_joined 70 = .ok (.if_icmp .ge 7, 3) := by decide +kernel
theorem dX1_joined_73 : decode cX1_joined 73 = .ok (.iconst 1, 1) := by decide +kernel
theorem dX1_joined_74 : decode cX1_joined 74 = .ok (.goto 4, 3) := by decide +kernel
theorem dX1_joined_77 : decode cX1_joined 77 = .ok (.iconst 0, 1) := by decide +kernel
theorem dX1_joined_78 : decode cX1_joined 78 = .ok (.ireturn, 1) := by decide +kernel
theorem dX1_joined_79 : decode cX1_joined 79 = .ok (.iload_n 1, 1) := by decide +kernel
theorem dX1_joined_80 : decode cX1_joined 80 = .ok (.iload_n 2, 1) := by decide +kernel
theorem dX1_joined_81 : decode cX1_joined 81 = .ok (.if_icmp .ne 7, 3) := by decide +kernel
theorem dX1_joined_84 : decode cX1_joined 84 = .ok (.iconst 1, 1) := by decide +kernel
theorem dX1_joined_85 : decode cX1_joined 85 = .ok (.goto 4, 3) := by decide +kernel
theorem dX1_joined_88 : decode cX1_joined 88 = .ok (.iconst 0, 1) := by decide +kernel
theorem dX1_joined_89 : decode cX1_joined 89 = .ok (.ireturn, 1) := by decide +kernel
theorem dX1_joined_90 : decode cX1_joined 90 = .ok (.iload_n 1, 1) := by decide +kernel
theorem dX1_joined_91 : decode cX1_joined 91 = .ok (.iload_n 2, 1) := by decide +kernel
theorem dX1_joined_92 : decode cX1_joined 92 = .ok (.iadd, 1) := by decide +kernel
theorem dX1_joined_93 : decode cX1_joined 93 = .ok (.ireturn, 1) := by decide +kernel
theorem dX1_joined_94 : decode cX1_joined 94 = .ok (.iload_n 1, 1) := by decide +kernel
theorem dX1_joined_95 : decode cX1_joined 95 = .ok (.iload_n 2, 1) := by decide +kernel
theorem dX1_joined_96 : decode cX1_joined 96 = .ok (.isub, 1) := by decide +kernel
theorem dX1_joined_97 : decode cX1_joined 97 = .ok (.ireturn, 1) := by decide +kernel
theorem dX1_joined_98 : decode cX1_joined 98 = .ok (.iload_n 1, 1) := by decide +kernel
theorem dX1_joined_99 : decode cX1_joined 99 = .ok (.iload_n 2, 1) := by decide +kernel
theorem dX1_joined_100 : decode cX1_joined 100 = .ok (.imul, 1) := by decide +kernel
theorem dX1_joined_101 : decode cX1_joined 101 = .ok (.ireturn, 1) := by decide +kernel
theorem dX2_init_0 : decode cX2_init 0 = .ok (.aload_n 0, 1) := by decide +kernel
theorem dX2_init_1 : decode cX2_init 1 = .ok (.invokespecial 3, 3) := by decide +kernel
theorem dX2_init_4 : decode cX2_init 4 = .ok (.aload_n 0, 1) := by decide +kernel
theorem dX2_init_5 : decode cX2_init 5 = .ok (.iconst 0, 1) := by decide +kernel
theorem dX2_init_6 : decode cX2_init 6 = .ok (.putfield 9, 3) := by decide +kernel
theorem dX2_init_9 : decode cX2_init 9 = .ok (.aload_n 0, 1) := by decide +kernel
theorem dX2_init_10 : decode cX2_init 10 = .ok (.sipush 160, 3) := by decide +kernel
theorem dX2_init_13 : decode cX2_init 13 = .ok (.newarray .int, 2) := by decide +kernel
theorem dX2_init_15 : decode cX2_init 15 = .ok (.putfield 15, 3) := by decide +kernel
theorem dX2_init_18 : decode cX2_init 18 = .ok (.aload_n 0, 1) := by decide +kernel
theorem dX2_init_19 : decode cX2_init 19 = .ok (.iconst 0, 1) := by decide +kernel
theorem dX2_init_20 : decode cX2_init 20 = .ok (.putfield 19, 3) := by decide +kernel
theorem dX2_init_23 : decode cX2_init 23 = .ok (.aload_n 0, 1) := by decide +kernel
theorem dX2_init_24 : decode cX2_init 24 = .ok (.sipush 161, 3) := by decide +kernel
theorem dX2_init_27 : decode cX2_init 27 = .ok (.newarray .int, 2) := by decide +kernel
theorem dX2_init_29 : decode cX2_init 29 = .ok (.putfield 22, 3) := by decide +kernel
theorem dX2_init_32 : decode cX2_init 32 = .ok (.aload_n 0, 1) := by decide +kernel
theorem dX2_init_33 : decode cX2_init 33 = .ok (.sipush 161, 3) := by decide +kernel
theorem dX2_init_36 : decode cX2_init 36 = .ok (.newarray .int, 2) := by decide +kernel
theorem dX2_init_38 : decode cX2_init 38 = .ok (.putfield 25, 3) := by decide +kernel
theorem dX2_init_41 : decode cX2_init 41 = .ok (.aload_n 0, 1) := by decide +kernel
theorem dX2_init_42 : decode cX2_init 42 = .ok (.sipush 161, 3) := by decide +kernel
theorem dX2_init_45 : decode cX2_init 45 = .ok (.newarray .int, 2) := by decide +kernel
theorem dX2_init_47 : decode cX2_init 47 = .ok (.putfield 28, 3) := by decide +kernel
theorem dX2_init_50 : decode cX2_init 50 = .ok (.aload_n 0, 1) := by decide +kernel
theorem dX2_init_51 : decode cX2_init 51 = .ok (.iconst 0, 1) := by decide +kernel
theorem dX2_init_52 : decode cX2_init 52 = .ok (.putfield 31, 3) := by decide +kernel
theorem dX2_init_55 : decode cX2_init 55 = .ok (.aload_n 0, 1) := by decide +kernel
theorem dX2_init_56 : decode cX2_init 56 = .ok (.iconst 0, 1) := by decide +kernel
theorem dX2_init_57 : decode cX2_init 57 = .ok (.putfield 34, 3) := by decide +kernel
theorem dX2_init_60 : decode cX2_init 60 = .ok (.aload_n 0, 1) := by decide +kernel
theorem dX2_init_61 : decode cX2_init 61 = .ok (.sipush 160, 3) := by decide +kernel
theorem dX2_init_64 : decode cX2_init 64 = .ok (.newarray .int, 2) := by decide +kernel
theorem dX2_init_66 : decode cX2_init 66 = .ok (.putfield 37, 3) := by decide +kernel
theorem dX2_init_69 : decode cX2_init 69 = .ok (.aload_n 0, 1) := by decide +kernel
theorem dX2_init_70 : decode cX2_init 70 = .ok (.iconst 3, 1) := by decide +kernel
theorem dX2_init_71 : decode cX2_init 71 = .ok (.newarray .int, 2) := by decide +kernel
theorem dX2_init_73 : decode cX2_init 73 = .ok (.putfield 40, 3) := by decide +kernel
theorem dX2_init_76 : decode cX2_init 76 = .ok (.return_, 1) := by decide +kernel
theorem dX2_put_0 : decode cX2_put 0 = .ok (.aload_n 0, 1) := by decide +kernel
theorem dX2_put_1 : decode cX2_put 1 = .ok (.getfield 9, 3) := by decide +kernel
theorem dX2_put_4 : decode cX2_put 4 = .ok (.sipush 160, 3) := by decide +kernel
theorem dX2_put_7 : decode cX2_put 7 = .ok (.if_icmp .ge 23, 3) := by decide +kernel
theorem dX2_put_10 : decode cX2_put 10 = .ok (.aload_n 0, 1) := by decide +kernel
theorem dX2_put_11 : decode cX2_put 11 = .ok (.getfield 15, 3) := by decide +kernel
theorem dX2_put_14 : decode cX2_put 14 = .ok (.aload_n 0, 1) := by decide +kernel
theorem dX2_put_15 : decode cX2_put 15 = .ok (.getfield 9, 3) := by decide +kernel
theorem dX2_put_18 : decode cX2_put 18 = .ok (.iload_n 1, 1) := by decide +kernel
theorem dX2_put_19 : decode cX2_put 19 = .ok (.iastore, 1) := by decide +kernel
theorem dX2_put_20 : decode cX2_put 20 = .ok (.aload_n 0, 1) := by decide +kernel
theorem dX2_put_21 : decode cX2_put 21 = .ok (.dup, 1) := by decide +kernel
theorem dX2_put_22 : decode cX2_put 22 = .ok (.getfield 9, 3) := by decide +kernel
theorem dX2_put_25 : decode cX2_put 25 = .ok (.iconst 1, 1) := by decide +kernel
theorem dX2_put_26 : decode cX2_put 26 = .ok (.iadd, 1) := by decide +kernel
theorem dX2_put_27 : decode cX2_put 27 = .ok (.putfield 9, 3) := by decide +kernel
theorem dX2_put_30 : decode cX2_put 30 = .ok (.return_, 1) := by decide +kernel
theorem dX2_empty_0 : decode cX2_empty 0 = .ok (.aload_n 0, 1) := by decide +kernel
theorem dX2_empty_1 : decode cX2_empty 1 = .ok (.iconst 0, 1) := by decide +kernel
theorem dX2_empty_2 : decode cX2_empty 2 = .ok (.putfield 9, 3) := by decide +kernel
theorem dX2_empty_5 : decode cX2_empty 5 = .ok (.return_, 1) := by decide +kernel
theorem dX2_place_0 : decode cX2_place 0 = .ok (.aload_n 0, 1) := by decide +kernel
theorem dX2_place_1 : decode cX2_place 1 = .ok (.getfield 31, 3) := by decide +kernel
theorem dX2_place_4 : decode cX2_place 4 = .ok (.iconst 0, 1) := by decide +kernel
theorem dX2_place_5 : decode cX2_place 5 = .ok (.sipush 160, 3) := by decide +kernel
theorem dX2_place_8 : decode cX2_place 8 = .ok (.invokestatic 43, 3) := by decide +kernel
theorem dX2_place_11 : decode cX2_place 11 = .ok (.ifCond .eq 15, 3) := by decide +kernel
theorem dX2_place_14 : decode cX2_place 14 = .ok (.aload_n 0, 1) := by decide +kernel
theorem dX2_place_15 : decode cX2_place 15 = .ok (.getfield 25, 3) := by decide +kernel
theorem dX2_place_18 : decode cX2_place 18 = .ok (.aload_n 0, 1) := by decide +kernel
theorem dX2_place_19 : decode cX2_place 19 = .ok (.getfield 31, 3) := by decide +kernel
theorem dX2_place_22 : decode cX2_place 22 = .ok (.iaload, 1) := by decide +kernel
theorem dX2_place_23 : decode cX2_place 23 = .ok (.goto 7, 3) := by decide +kernel
theorem dX2_place_26 : decode cX2_place 26 = .ok (.aload_n 0, 1) := by decide +kernel
theorem dX2_place_27 : decode cX2_place 27 = .ok (.getfield 9, 3) := by decide +kernel
theorem dX2_place_30 : decode cX2_place 30 = .ok (.ireturn, 1) := by decide +kernel
theorem dX2_read_0 : decode cX2_read 0 = .ok (.aload_n 0, 1) := by decide +kernel
theorem dX2_read_1 : decode cX2_read 1 = .ok (.invokevirtual 47, 3) := by decide +kernel
theorem dX2_read_4 : decode cX2_read 4 = .ok (.aload_n 0, 1) := by decide +kernel
theorem dX2_read_5 : decode cX2_read 5 = .ok (.iconst 0, 1) := by decide +kernel
theorem dX2_read_6 : decode cX2_read 6 = .ok (.putfield 31, 3) := by decide +kernel
theorem dX2_read_9 : decode cX2_read 9 = .ok (.aload_n 0, 1) := by decide +kernel
theorem dX2_read_10 : decode cX2_read 10 = .ok (.iconst 0, 1) := by decide +kernel
theorem dX2_read_11 : decode cX2_read 11 = .ok (.putfield 34, 3) := by decide +kernel
theorem dX2_read_14 : decode cX2_read 14 = .ok (.iconst 0, 1) := by decide +kernel
theorem dX2_read_15 : decode cX2_read 15 = .ok (.istore_n 1, 1) := by decide +kernel
theorem dX2_read_16 : decode cX2_read 16 = .ok (.iload_n 1, 1) := by decide +kernel
theorem dX2_read_17 : decode cX2_read 17 = .ok (.iconst 3, 1) := by decide +kernel
theorem dX2_read_18 : decode cX2_read 18 = .ok (.if_icmp .ge 48, 3) := by decide +kernel
theorem dX2_read_21 : decode cX2_read 21 = .ok (.aload_n 0, 1) := by decide +kernel
theorem dX2_read_22 : decode cX2_read 22 = .ok (.iconst 1, 1) := by decide +kernel
theorem dX2_read_23 : decode cX2_read 23 = .ok (.iload_n 1, 1) := by decide +kernel
theorem dX2_read_24 : decode cX2_read 24 = .ok (.iadd, 1) := by decide +kernel
theorem dX2_read_25 : decode cX2_read 25 = .ok (.invokevirtual 50, 3) := by decide +kernel
theorem dX2_read_28 : decode cX2_read 28 = .ok (.ifCond .eq 20, 3) := by decide +kernel
theorem dX2_read_31 : decode cX2_read 31 = .ok (.aload_n 0, 1) := by decide +kernel
theorem dX2_read_32 : decode cX2_read 32 = .ok (.iconst 0, 1) := by decide +kernel
theorem dX2_read_33 : decode cX2_read 33 = .ok (.invokevirtual 54, 3) := by decide +kernel
theorem dX2_read_36 : decode cX2_read 36 = .ok (.ifCond .eq 12, 3) := by decide +kernel
theorem dX2_read_39 : decode cX2_read 39 = .ok (.aload_n 0, 1) := by decide +kernel
theorem dX2_read_40 : decode cX2_read 40 = .ok (.bipush 59, 2) := by decide +kernel
theorem dX2_read_42 : decode cX2_read 42 = .ok (.invokevirtual 50, 3) := by decide +kernel
theorem dX2_read_45 : decode cX2_read 45 = .ok (.ifCond .ne 5, 3) := by decide +kernel
theorem dX2_read_48 : decode cX2_read 48 = .ok (.iconst 0, 1) := by decide +kernel
theorem dX2_read_49 : decode cX2_read 49 = .ok (.ireturn, 1) := by decide +kernel
theorem dX2_read_50 : decode cX2_read 50 = .ok (.aload_n 0, 1) := by decide +kernel
theorem dX2_read_51 : decode cX2_read 51 = .ok (.getfield 40, 3) := by decide +kernel
theorem dX2_read_54 : decode cX2_read 54 = .ok (.iload_n 1, 1) := by decide +kernel
theorem dX2_read_55 : decode cX2_read 55 = .ok (.aload_n 0, 1) := by decide +kernel
theorem dX2_read_56 : decode cX2_read 56 = .ok (.getfield 34, 3) := by decide +kernel
theorem dX2_read_59 : decode cX2_read 59 = .ok (.iastore, 1) := by decide +kernel
theorem dX2_read_60 : decode cX2_read 60 = .ok (.iinc 1 1, 3) := by decide +kernel
theorem dX2_read_63 : decode cX2_read 63 = .ok (.goto (-47), 3) := by decide +kernel
theorem dX2_read_66 : decode cX2_read 66 = .ok (.aload_n 0, 1) := by decide +kernel
theorem dX2_read_67 : decode cX2_read 67 = .ok (.bipush 14, 2) := by decide +kernel
theorem dX2_read_69 : decode cX2_read 69 = .ok (.invokevirtual 57, 3) := by decide +kernel
theorem dX2_read_72 : decode cX2_read 72 = .ok (.ireturn, 1) := by decide +kernel
theorem dX2_cut_0 : decode cX2_cut 0 = .ok (.aload_n 0, 1) := by decide +kernel
theorem dX2_cut_1 : decode cX2_cut 1 = .ok (.iconst 0, 1) := by decide +kernel
theorem dX2_cut_2 : decode cX2_cut 2 = .ok (.putfield 19, 3) := by decide +kernel
theorem dX2_cut_5 : decode cX2_cut 5 = .ok (.iconst 0, 1) := by decide +kernel
theorem dX2_cut_6 : decode cX2_cut 6 = .ok (.istore_n 1, 1) := by decide +kernel
theorem dX2_cut_7 : decode cX2_cut 7 = .ok (.iconst 0, 1) := by decide +kernel
theorem dX2_cut_8 : decode cX2_cut 8 = .ok (.istore_n 2, 1) := by decide +kernel
theorem dX2_cut_9 : decode cX2_cut 9 = .ok (.iload_n 2, 1) := by decide +kernel
theorem dX2_cut_10 : decode cX2_cut 10 = .ok (.sipush 160, 3) := by decide +kernel
theorem dX2_cut_13 : decode cX2_cut 13 = .ok (.if_icmp .ge 59, 3) := by decide +kernel
theorem dX2_cut_16 : decode cX2_cut 16 = .ok (.iload_n 1, 1) := by decide +kernel
theorem dX2_cut_17 : decode cX2_cut 17 = .ok (.aload_n 0, 1) := by decide +kernel
theorem dX2_cut_18 : decode cX2_cut 18 = .ok (.getfield 9, 3) := by decide +kernel
theorem dX2_cut_21 : decode cX2_cut 21 = .ok (.if_icmp .ge 51, 3) := by decide +kernel
theorem dX2_cut_24 : decode cX2_cut 24 = .ok (.aload_n 0, 1) := by decide +kernel
theorem dX2_cut_25 : decode cX2_cut 25 = .ok (.iload_n 1, 1) := by decide +kernel
theorem dX2_cut_26 : decode cX2_cut 26 = .ok (.invokevirtual 60, 3) := by decide +kernel
theorem dX2_cut_29 : decode cX2_cut 29 = .ok (.istore_n 3, 1) := by decide +kernel
theorem dX2_cut_30 : decode cX2_cut 30 = .ok (.aload_n 0, 1) := by decide +kernel
theorem dX2_cut_31 : decode cX2_cut 31 = .ok (.getfield 15, 3) := by decide +kernel
theorem dX2_cut_34 : decode cX2_cut 34 = .ok (.iload_n 1, 1) := by decide +kernel
theorem dX2_cut_35 : decode cX2_cut 35 = .ok (.iaload, 1) := by decide +kernel
theorem dX2_cut_36 : decode cX2_cut 36 = .ok (.bipush 32, 2) := by decide +kernel
theorem dX2_cut_38 : decode cX2_cut 38 = .ok (.if_icmp .eq 26, 3) := by decide +kernel
theorem dX2_cut_41 : decode cX2_cut 41 = .ok (.aload_n 0, 1) := by decide +kernel
theorem dX2_cut_42 : decode cX2_cut 42 = .ok (.getfield 15, 3) := by decide +kernel
theorem dX2_cut_45 : decode cX2_cut 45 = .ok (.iload_n 1, 1) := by decide +kernel
theorem dX2_cut_46 : decode cX2_cut 46 = .ok (.iaload, 1) := by decide +kernel
theorem dX2_cut_47 : decode cX2_cut 47 = .ok (.bipush 10, 2) := by decide +kernel
theorem dX2_cut_49 : decode cX2_cut 49 = .ok (.if_icmp .eq 15, 3) := by decide +kernel
theorem dX2_cut_52 : decode cX2_cut 52 = .ok (.aload_n 0, 1) := by decide +kernel
theorem dX2_cut_53 : decode cX2_cut 53 = .ok (.aload_n 0, 1) := by decide +kernel
theorem dX2_cut_54 : decode cX2_cut 54 = .ok (.iload_n 1, 1) := by decide +kernel
theorem dX2_cut_55 : decode cX2_cut 55 = .ok (.iload_n 3, 1) := by decide +kernel
theorem dX2_cut_56 : decode cX2_cut 56 = .ok (.invokevirtual 64, 3) := by decide +kernel
theorem dX2_cut_59 : decode cX2_cut 59 = .ok (.iload_n 1, 1) := by decide +kernel
theorem dX2_cut_60 : decode cX2_cut 60 = .ok (.iload_n 3, 1) := by decide +kernel
theorem dX2_cut_61 : decode cX2_cut 61 = .ok (.invokevirtual 68, 3) := by decide +kernel
theorem dX2_cut_64 : decode cX2_cut 64 = .ok (.iload_n 3, 1) := by decide +kernel
theorem dX2_cut_65 : decode cX2_cut 65 = .ok (.istore_n 1, 1) := by decide +kernel
theorem dX2_cut_66 : decode cX2_cut 66 = .ok (.iinc 2 1, 3) := by decide +kernel
theorem dX2_cut_69 : decode cX2_cut 69 = .ok (.goto (-60), 3) := by decide +kernel
theorem dX2_cut_72 : decode cX2_cut 72 = .ok (.aload_n 0, 1) := by decide +kernel
theorem dX2_cut_73 : decode cX2_cut 73 = .ok (.bipush 14, 2) := by decide +kernel
theorem dX2_cut_75 : decode cX2_cut 75 = .ok (.aload_n 0, 1) := by decide +kernel
theorem dX2_cut_76 : decode cX2_cut 76 = .ok (.getfield 9, 3) := by decide +kernel
theorem dX2_cut_79 : decode cX2_cut 79 = .ok (.aload_n 0, 1) := by decide +kernel
theorem dX2_cut_80 : decode cX2_cut 80 = .ok (.getfield 9, 3) := by decide +kernel
theorem dX2_cut_83 : decode cX2_cut 83 = .ok (.invokevirtual 68, 3) := by decide +kernel
theorem dX2_cut_86 : decode cX2_cut 86 = .ok (.return_, 1) := by decide +kernel
theorem dX2_addToken_0 : decode cX2_addToken 0 = .ok (.aload_n 0, 1) := by decide +kernel
theorem dX2_addToken_1 : decode cX2_addToken 1 = .ok (.getfield 19, 3) := by decide +kernel
theorem dX2_addToken_4 : decode cX2_addToken 4 = .ok (.sipush 160, 3) := by decide +kernel
theorem dX2_addToken_7 : decode cX2_addToken 7 = .ok (.if_icmp .le 4, 3) := by decide +kernel
theorem dX2_addToken_10 : decode cX2_addToken 10 = .ok (.return_, 1) := by decide +kernel
theorem dX2_addToken_11 : decode cX2_addToken 11 = .ok (.aload_n 0, 1) := by decide +kernel
theorem dX2_addToken_12 : decode cX2_addToken 12 = .ok (.getfield 22, 3) := by decide +kernel
theorem dX2_addToken_15 : decode cX2_addToken 15 = .ok (.aload_n 0, 1) := by decide +kernel
theorem dX2_addToken_16 : decode cX2_addToken 16 = .ok (.getfield 19, 3) := by decide +kernel
theorem dX2_addToken_19 : decode cX2_addToken 19 = .ok (.iload_n 1, 1) := by decide +kernel
theorem dX2_addToken_20 : decode cX2_addToken 20 = .ok (.iastore, 1) := by decide +kernel
theorem dX2_addToken_21 : decode cX2_addToken 21 = .ok (.aload_n 0, 1) := by decide +kernel
theorem dX2_addToken_22 : decode cX2_addToken 22 = .ok (.getfield 25, 3) := by decide +kernel
theorem dX2_addToken_25 : decode cX2_addToken 25 = .ok (.aload_n 0, 1) := by decide +kernel
theorem dX2_addToken_26 : decode cX2_addToken 26 = .ok (.getfield 19, 3) := by decide +kernel
theorem dX2_addToken_29 : decode cX2_addToken 29 = .ok (.iload_n 2, 1) := by decide +kernel
theorem dX2_addToken_30 : decode cX2_addToken 30 = .ok (.iastore, 1) := by decide +kernel
theorem dX2_addToken_31 : decode cX2_addToken 31 = .ok (.aload_n 0, 1) := by decide +kernel
theorem dX2_addToken_32 : decode cX2_addToken 32 = .ok (.getfield 28, 3) := by decide +kernel
theorem dX2_addToken_35 : decode cX2_addToken 35 = .ok (.aload_n 0, 1) := by decide +kernel
theorem dX2_addToken_36 : decode cX2_addToken 36 = .ok (.getfield 19, 3) := by decide +kernel
theorem dX2_addToken_39 : decode cX2_addToken 39 = .ok (.iconst 0, 1) := by decide +kernel
theorem dX2_addToken_40 : decode cX2_addToken 40 = .ok (.iastore, 1) := by decide +kernel
theorem dX2_addToken_41 : decode cX2_addToken 41 = .ok (.iload_n 1, 1) := by decide +kernel
theorem dX2_addToken_42 : decode cX2_addToken 42 = .ok (.bipush 13, 2) := by decide +kernel
theorem dX2_addToken_44 : decode cX2_addToken 44 = .ok (.if_icmp .ne 50, 3) := by decide +kernel
theorem dX2_addToken_47 : decode cX2_addToken 47 = .ok (.iload_n 2, 1) := by decide +kernel
theorem dX2_addToken_48 : decode cX2_addToken 48 = .ok (.istore 4, 2) := by decide +kernel
theorem dX2_addToken_50 : decode cX2_addToken 50 = .ok (.iload 4, 2) := by decide +kernel
theorem dX2_addToken_52 : decode cX2_addToken 52 = .ok (.iload_n 3, 1) := by decide +kernel
theorem dX2_addToken_53 : decode cX2_addToken 53 = .ok (.if_icmp .ge 41, 3) := by decide +kernel
theorem dX2_addToken_56 : decode cX2_addToken 56 = .ok (.aload_n 0, 1) := by decide +kernel
theorem dX2_addToken_57 : decode cX2_addToken 57 = .ok (.getfield 28, 3) := by decide +kernel
theorem dX2_addToken_60 : decode cX2_addToken 60 = .ok (.aload_n 0, 1) := by decide +kernel
theorem dX2_addToken_61 : decode cX2_addToken 61 = .ok (.getfield 19, 3) := by decide +kernel
theorem dX2_addToken_64 : decode cX2_addToken 64 = .ok (.aload_n 0, 1) := by decide +kernel
theorem dX2_addToken_65 : decode cX2_addToken 65 = .ok (.getfield 28, 3) := by decide +kernel
theorem dX2_addToken_68 : decode cX2_addToken 68 = .ok (.aload_n 0, 1) := by decide +kernel
theorem dX2_addToken_69 : decode cX2_addToken 69 = .ok (.getfield 19, 3) := by decide +kernel
theorem dX2_addToken_72 : decode cX2_addToken 72 = .ok (.iaload, 1) := by decide +kernel
theorem dX2_addToken_73 : decode cX2_addToken 73 = .ok (.bipush 10, 2) := by decide +kernel
theorem dX2_addToken_75 : decode cX2_addToken 75 = .ok (.imul, 1) := by decide +kernel
theorem dX2_addToken_76 : decode cX2_addToken 76 = .ok (.aload_n 0, 1) := by decide +kernel
theorem dX2_addToken_77 : decode cX2_addToken 77 = .ok (.getfield 15, 3) := by decide +kernel
theorem dX2_addToken_80 : decode cX2_addToken 80 = .ok (.iload 4, 2) := by decide +kernel
theorem dX2_addToken_82 : decode cX2_addToken 82 = .ok (.iaload, 1) := by decide +kernel
theorem dX2_addToken_83 : decode cX2_addToken 83 = .ok (.iadd, 1) := by decide +kernel
theorem dX2_addToken_84 : decode cX2_addToken 84 = .ok (.bipush 48, 2) := by decide +kernel
theorem dX2_addToken_86 : decode cX2_addToken 86 = .ok (.isub, 1) := by decide +kernel
theorem dX2_addToken_87 : decode cX2_addToken 87 = .ok (.iastore, 1) := by decide +kernel
theorem dX2_addToken_88 : decode cX2_addToken 88 = .ok (.iinc 4 1, 3) := by decide +kernel
theorem dX2_addToken_91 : decode cX2_addToken 91 = .ok (.goto (-41), 3) := by decide +kernel
theorem dX2_addToken_94 : decode cX2_addToken 94 = .ok (.aload_n 0, 1) := by decide +kernel
theorem dX2_addToken_95 : decode cX2_addToken 95 = .ok (.dup, 1) := by decide +kernel
theorem dX2_addToken_96 : decode cX2_addToken 96 = .ok (.getfield 19, 3) := by decide +kernel
theorem dX2_addToken_99 : decode cX2_addToken 99 = .ok (.iconst 1, 1) := by decide +kernel
theorem dX2_addToken_100 : decode cX2_addToken 100 = .ok (.iadd, 1) := by decide +kernel
theorem dX2_addToken_101 : decode cX2_addToken 101 = .ok (.putfield 19, 3) := by decide +kernel
theorem dX2_addToken_104 : decode cX2_addToken 104 = .ok (.return_, 1) := by decide +kernel
theorem dX2_endOf_0 : decode cX2_endOf 0 = .ok (.iload_n 1, 1) := by decide +kernel
theorem dX2_endOf_1 : decode cX2_endOf 1 = .ok (.iconst 1, 1) := by decide +kernel
theorem dX2_endOf_2 : decode cX2_endOf 2 = .ok (.iadd, 1) := by decide +kernel
theorem dX2_endOf_3 : decode cX2_endOf 3 = .ok (.istore_n 2, 1) := by decide +kernel
theorem dX2_endOf_4 : decode cX2_endOf 4 = .ok (.aload_n 0, 1) := by decide +kernel
theorem dX2_endOf_5 : decode cX2_endOf 5 = .ok (.getfield 15, 3) := by decide +kernel
theorem dX2_endOf_8 : decode cX2_endOf 8 = .ok (.iload_n 1, 1) := by decide +kernel
theorem dX2_endOf_9 : decode cX2_endOf 9 = .ok (.iaload, 1) := by decide +kernel
theorem dX2_endOf_10 : decode cX2_endOf 10 = .ok (.invokestatic 72, 3) := by decide +kernel
theorem dX2_endOf_13 : decode cX2_endOf 13 = .ok (.ifCond .eq 29, 3) := by decide +kernel
theorem dX2_endOf_16 : decode cX2_endOf 16 = .ok (.iload_n 2, 1) := by decide +kernel
theorem dX2_endOf_17 : decode cX2_endOf 17 = .ok (.aload_n 0, 1) := by decide +kernel
theorem dX2_endOf_18 : decode cX2_endOf 18 = .ok (.getfield 9, 3) := by decide +kernel
theorem dX2_endOf_21 : decode cX2_endOf 21 = .ok (.if_icmp .ge 59, 3) := by decide +kernel
theorem dX2_endOf_24 : decode cX2_endOf 24 = .ok (.aload_n 0, 1) := by decide +kernel
theorem dX2_endOf_25 : decode cX2_endOf 25 = .ok (.getfield 15, 3) := by decide +kernel
theorem dX2_endOf_28 : decode cX2_endOf 28 = .ok (.iload_n 2, 1) := by decide +kernel
theorem dX2_endOf_29 : decode cX2_endOf 29 = .ok (.iaload, 1) := by decide +kernel
theorem dX2_endOf_30 : decode cX2_endOf 30 = .ok (.invokestatic 72, 3) := by decide +kernel
theorem dX2_endOf_33 : decode cX2_endOf 33 = .ok (.ifCond .eq 47, 3) := by decide +kernel
theorem dX2_endOf_36 : decode cX2_endOf 36 = .ok (.iinc 2 1, 3) := by decide +kernel
theorem dX2_endOf_39 : decode cX2_endOf 39 = .ok (.goto (-23), 3) := by decide +kernel
theorem dX2_endOf_42 : decode cX2_endOf 42 = .ok (.aload_n 0, 1) := by decide +kernel
theorem dX2_endOf_43 : decode cX2_endOf 43 = .ok (.getfield 15, 3) := by decide +kernel
theorem dX2_endOf_46 : decode cX2_endOf 46 = .ok (.iload_n 1, 1) := by decide +kernel
theorem dX2_endOf_47 : decode cX2_endOf 47 = .ok (.iaload, 1) := by decide +kernel
theorem dX2_endOf_48 : decode cX2_endOf 48 = .ok (.invokestatic 75, 3) := by decide +kernel
theorem dX2_endOf_51 : decode cX2_endOf 51 = .ok (.ifCond .eq 29, 3) := by decide +kernel
theorem dX2_endOf_54 : decode cX2_endOf 54 = .ok (.iload_n 2, 1) := by decide +kernel
theorem dX2_endOf_55 : decode cX2_endOf 55 = .ok (.aload_n 0, 1) := by decide +kernel
theorem dX2_endOf_56 : decode cX2_endOf 56 = .ok (.getfield 9, 3) := by decide +kernel
theorem dX2_endOf_59 : decode cX2_endOf 59 = .ok (.if_icmp .ge 21, 3) := by decide +kernel
theorem dX2_endOf_62 : decode cX2_endOf 62 = .ok (.aload_n 0, 1) := by decide +kernel
theorem dX2_endOf_63 : decode cX2_endOf 63 = .ok (.getfield 15, 3) := by decide +kernel
theorem dX2_endOf_66 : decode cX2_endOf 66 = .ok (.iload_n 2, 1) := by decide +kernel
theorem dX2_endOf_67 : decode cX2_endOf 67 = .ok (.iaload, 1) := by decide +kernel
theorem dX2_endOf_68 : decode cX2_endOf 68 = .ok (.invokestatic 75, 3) := by decide +kernel
theorem dX2_endOf_71 : decode cX2_endOf 71 = .ok (.ifCond .eq 9, 3) := by decide +kernel
theorem dX2_endOf_74 : decode cX2_endOf 74 = .ok (.iinc 2 1, 3) := by decide +kernel
theorem dX2_endOf_77 : decode cX2_endOf 77 = .ok (.goto (-23), 3) := by decide +kernel
theorem dX2_endOf_80 : decode cX2_endOf 80 = .ok (.iload_n 2, 1) := by decide +kernel
theorem dX2_endOf_81 : decode cX2_endOf 81 = .ok (.ireturn, 1) := by decide +kernel
theorem dX2_kindOf_0 : decode cX2_kindOf 0 = .ok (.aload_n 0, 1) := by decide +kernel
theorem dX2_kindOf_1 : decode cX2_kindOf 1 = .ok (.getfield 15, 3) := by decide +kernel
theorem dX2_kindOf_4 : decode cX2_kindOf 4 = .ok (.iload_n 1, 1) := by decide +kernel
theorem dX2_kindOf_5 : decode cX2_kindOf 5 = .ok (.iaload, 1) := by decide +kernel
theorem dX2_kindOf_6 : decode cX2_kindOf 6 = .ok (.invokestatic 72, 3) := by decide +kernel
theorem dX2_kindOf_9 : decode cX2_kindOf 9 = .ok (.ifCond .eq 10, 3) := by decide +kernel
theorem dX2_kindOf_12 : decode cX2_kindOf 12 = .ok (.aload_n 0, 1) := by decide +kernel
theorem dX2_kindOf_13 : decode cX2_kindOf 13 = .ok (.iload_n 1, 1) := by decide +kernel
theorem dX2_kindOf_14 : decode cX2_kindOf 14 = .ok (.iload_n 2, 1) := by decide +kernel
theorem dX2_kindOf_15 : decode cX2_kindOf 15 = .ok (.invokevirtual 78, 3) := by decide +kernel
theorem dX2_kindOf_18 : decode cX2_kindOf 18 = .ok (.ireturn, 1) := by decide +kernel
theorem dX2_kindOf_19 : decode cX2_kindOf 19 = .ok (.aload_n 0, 1) := by decide +kernel
theorem dX2_kindOf_20 : decode cX2_kindOf 20 = .ok (.getfield 15, 3) := by decide +kernel
theorem dX2_kindOf_23 : decode cX2_kindOf 23 = .ok (.iload_n 1, 1) := by decide +kernel
theorem dX2_kindOf_24 : decode cX2_kindOf 24 = .ok (.iaload, 1) := by decide +kernel
theorem dX2_kindOf_25 : decode cX2_kindOf 25 = .ok (.invokestatic 75, 3) := by decide +kernel
theorem dX2_kindOf_28 : decode cX2_kindOf 28 = .ok (.ifCond .eq 17, 3) := by decide +kernel
theorem dX2_kindOf_31 : decode cX2_kindOf 31 = .ok (.iload_n 2, 1) := by decide +kernel
theorem dX2_kindOf_32 : decode cX2_kindOf 32 = .ok (.iload_n 1, 1) := by decide +kernel
theorem dX2_kindOf_33 : decode cX2_kindOf 33 = .ok (.isub, 1) := by decide +kernel
theorem dX2_kindOf_34 : decode cX2_kindOf 34 = .ok (.iconst 4, 1) := by decide +kernel
theorem dX2_kindOf_35 : decode cX2_kindOf 35 = .ok (.if_icmp .le 7, 3) := by decide +kernel
theorem dX2_kindOf_38 : decode cX2_kindOf 38 = .ok (.iconst 0, 1) := by decide +kernel
theorem dX2_kindOf_39 : decode cX2_kindOf 39 = .ok (.goto 5, 3) := by decide +kernel
theorem dX2_kindOf_42 : decode cX2_kindOf 42 = .ok (.bipush 13, 2) := by decide +kernel
theorem dX2_kindOf_44 : decode cX2_kindOf 44 = .ok (.ireturn, 1) := by decide +kernel
theorem dX2_kindOf_45 : decode cX2_kindOf 45 = .ok (.ldc 81, 2) := by decide +kernel
theorem dX2_kindOf_47 : decode cX2_kindOf 47 = .ok (.aload_n 0, 1) := by decide +kernel
theorem dX2_kindOf_48 : decode cX2_kindOf 48 = .ok (.getfield 15, 3) := by decide +kernel
theorem dX2_kindOf_51 : decode cX2_kindOf 51 = .ok (.iload_n 1, 1) := by decide +kernel
theorem dX2_kindOf_52 : decode cX2_kindOf 52 = .ok (.iaload, 1) := by decide +kernel
theorem dX2_kindOf_53 : decode cX2_kindOf 53 = .ok (.i2c, 1) := by decide +kernel
theorem dX2_kindOf_54 : decode cX2_kindOf 54 = .ok (.invokevirtual 83, 3) := by decide +kernel
theorem dX2_kindOf_57 : decode cX2_kindOf 57 = .ok (.ifCond .lt 12, 3) := by decide +kernel
theorem dX2_kindOf_60 : decode cX2_kindOf 60 = .ok (.aload_n 0, 1) := by decide +kernel
theorem dX2_kindOf_61 : decode cX2_kindOf 61 = .ok (.getfield 15, 3) := by decide +kernel
theorem dX2_kindOf_64 : decode cX2_kindOf 64 = .ok (.iload_n 1, 1) := by decide +kernel
theorem dX2_kindOf_65 : decode cX2_kindOf 65 = .ok (.iaload, 1) := by decide +kernel
theorem dX2_kindOf_66 : decode cX2_kindOf 66 = .ok (.goto 4, 3) := by decide +kernel
theorem dX2_kindOf_69 : decode cX2_kindOf 69 = .ok (.iconst 0, 1) := by decide +kernel
theorem dX2_kindOf_70 : decode cX2_kindOf 70 = .ok (.ireturn, 1) := by decide +kernel
theorem dX2_wordOf_0 : decode cX2_wordOf 0 = .ok (.iconst 1, 1) := by decide +kernel
theorem dX2_wordOf_1 : decode cX2_wordOf 1 = .ok (.istore_n 3, 1) := by decide +kernel
theorem dX2_wordOf_2 : decode cX2_wordOf 2 = .ok (.iconst 0, 1) := by decide +kernel
theorem dX2_wordOf_3 : decode cX2_wordOf 3 = .ok (.istore 4, 2) := by decide +kernel
theorem dX2_wordOf_5 : decode cX2_wordOf 5 = .ok (.iconst 0, 1) := by decide +kernel
theorem dX2_wordOf_6 : decode cX2_wordOf 6 = .ok (.istore 5, 2) := by decide +kernel
theorem dX2_wordOf_8 : decode cX2_wordOf 8 = .ok (.iload 5, 2) := by decide +kernel
theorem dX2_wordOf_10 : decode cX2_wordOf 10 = .ok (.ldc 88, 2) := by decide +kernel
theorem dX2_wordOf_12 : decode cX2_wordOf 12 = .ok (.invokevirtual 90, 3) := by decide +kernel
theorem dX2_wordOf_15 : decode cX2_wordOf 15 = .ok (.if_icmp .ge 55, 3) := by decide +kernel
theorem dX2_wordOf_18 : decode cX2_wordOf 18 = .ok (.ldc 88, 2) := by decide +kernel
theorem dX2_wordOf_20 : decode cX2_wordOf 20 = .ok (.iload 5, 2) := by decide +kernel
theorem dX2_wordOf_22 : decode cX2_wordOf 22 = .ok (.invokevirtual 94, 3) := by decide +kernel
theorem dX2_wordOf_25 : decode cX2_wordOf 25 = .ok (.bipush 32, 2) := by decide +kernel
theorem dX2_wordOf_27 : decode cX2_wordOf 27 = .ok (.if_icmp .ne 37, 3) := by decide +kernel
theorem dX2_wordOf_30 : decode cX2_wordOf 30 = .ok (.iload 5, 2) := by decide +kernel
theorem dX2_wordOf_32 : decode cX2_wordOf 32 = .ok (.iload 4, 2) := by decide +kernel
theorem dX2_wordOf_34 : decode cX2_wordOf 34 = .ok (.isub, 1) := by decide +kernel
theorem dX2_wordOf_35 : decode cX2_wordOf 35 = .ok (.iload_n 2, 1) := by decide +kernel
theorem dX2_wordOf_36 : decode cX2_wordOf 36 = .ok (.iload_n 1, 1) := by decide +kernel
theorem dX2_wordOf_37 : decode cX2_wordOf 37 = .ok (.isub, 1) := by decide +kernel
theorem dX2_wordOf_38 : decode cX2_wordOf 38 = .ok (.if_icmp .ne 17, 3) := by decide +kernel
theorem dX2_wordOf_41 : decode cX2_wordOf 41 = .ok (.aload_n 0, 1) := by decide +kernel
theorem dX2_wordOf_42 : decode cX2_wordOf 42 = .ok (.iload 4, 2) := by decide +kernel
theorem dX2_wordOf_44 : decode cX2_wordOf 44 = .ok (.iload 5, 2) := by decide +kernel
theorem dX2_wordOf_46 : decode cX2_wordOf 46 = .ok (.iload_n 1, 1) := by decide +kernel
theorem dX2_wordOf_47 : decode cX2_wordOf 47 = .ok (.invokevirtual 98, 3) := by decide +kernel
theorem dX2_wordOf_50 : decode cX2_wordOf 50 = .ok (.ifCond .eq 5, 3) := by decide +kernel
theorem dX2_wordOf_53 : decode cX2_wordOf 53 = .ok (.iload_n 3, 1) := by decide +kernel
theorem dX2_wordOf_54 : decode cX2_wordOf 54 = .ok (.ireturn, 1) := by decide +kernel
theorem dX2_wordOf_55 : decode cX2_wordOf 55 = .ok (.iinc 3 1, 3) := by decide +kernel
theorem dX2_wordOf_58 : decode cX2_wordOf 58 = .ok (.iload 5, 2) := by decide +kernel
theorem dX2_wordOf_60 : decode cX2_wordOf 60 = .ok (.iconst 1, 1) := by decide +kernel
theorem dX2_wordOf_61 : decode cX2_wordOf 61 = .ok (.iadd, 1) := by decide +kernel
theorem dX2_wordOf_62 : decode cX2_wordOf 62 = .ok (.istore 4, 2) := by decide +kernel
theorem dX2_wordOf_64 : decode cX2_wordOf 64 = .ok (.iinc 5 1, 3) := by decide +kernel
theorem dX2_wordOf_67 : decode cX2_wordOf 67 = .ok (.goto (-59), 3) := by decide +kernel
theorem dX2_wordOf_70 : decode cX2_wordOf 70 = .ok (.iconst 0, 1) := by decide +kernel
theorem dX2_wordOf_71 : decode cX2_wordOf 71 = .ok (.ireturn, 1) := by decide +kernel
theorem dX2_isSame_0 : decode cX2_isSame 0 = .ok (.iload_n 1, 1) := by decide +kernel
theorem dX2_isSame_1 : decode cX2_isSame 1 = .ok (.istore 4, 2) := by decide +kernel
theorem dX2_isSame_3 : decode cX2_isSame 3 = .ok (.iload 4, 2) := by decide +kernel
theorem dX2_isSame_5 : decode cX2_isSame 5 = .ok (.iload_n 2, 1) := by decide +kernel
theorem dX2_isSame_6 : decode cX2_isSame 6 = .ok (.if_icmp .ge 32, 3) := by decide +kernel
theorem dX2_isSame_9 : decode cX2_isSame 9 = .ok (.ldc 88, 2) := by decide +kernel
theorem dX2_isSame_11 : decode cX2_isSame 11 = .ok (.iload 4, 2) := by decide +kernel
theorem dX2_isSame_13 : decode cX2_isSame 13 = .ok (.invokevirtual 94, 3) := by decide +kernel
theorem dX2_isSame_16 : decode cX2_isSame 16 = .ok (.aload_n 0, 1) := by decide +kernel
theorem dX2_isSame_17 : decode cX2_isSame 17 = .ok (.getfield 15, 3) := by decide +kernel
theorem dX2_isSame_20 : decode cX2_isSame 20 = .ok (.iload_n 3, 1) := by decide +kernel
theorem dX2_isSame_21 : decode cX2_isSame 21 = .ok (.iload 4, 2) := by decide +kernel
theorem dX2_isSame_23 : decode cX2_isSame 23 = .ok (.iadd, 1) := by decide +kernel
theorem dX2_isSame_24 : decode cX2_isSame 24 = .ok (.iload_n 1, 1) := by decide +kernel
theorem dX2_isSame_25 : decode cX2_isSame 25 = .ok (.isub, 1) := by decide +kernel
theorem dX2_isSame_26 : decode cX2_isSame 26 = .ok (.iaload, 1) := by decide +kernel
theorem dX2_isSame_27 : decode cX2_isSame 27 = .ok (.if_icmp .eq 5, 3) := by decide +kernel
theorem dX2_isSame_30 : decode cX2_isSame 30 = .ok (.iconst 0, 1) := by decide +kernel
theorem dX2_isSame_31 : decode cX2_isSame 31 = .ok (.ireturn, 1) := by decide +kernel
theorem dX2_isSame_32 : decode cX2_isSame 32 = .ok (.iinc 4 1, 3) := by decide +kernel
theorem dX2_isSame_35 : decode cX2_isSame 35 = .ok (.goto (-32), 3) := by decide +kernel
theorem dX2_isSame_38 : decode cX2_isSame 38 = .ok (.iconst 1, 1) := by decide +kernel
theorem dX2_isSame_39 : decode cX2_isSame 39 = .ok (.ireturn, 1) := by decide +kernel
theorem dX2_isLetter_0 : decode cX2_isLetter 0 = .ok (.iload_n 0, 1) := by decide +kernel
theorem dX2_isLetter_1 : decode cX2_isLetter 1 = .ok (.bipush 97, 2) := by decide +kernel
theorem dX2_isLetter_3 : decode cX2_isLetter 3 = .ok (.bipush 122, 2) := by decide +kernel
theorem dX2_isLetter_5 : decode cX2_isLetter 5 = .ok (.invokestatic 43, 3) := by decide +kernel
theorem dX2_isLetter_8 : decode cX2_isLetter 8 = .ok (.ireturn, 1) := by decide +kernel
theorem dX2_isDigit_0 : decode cX2_isDigit 0 = .ok (.iload_n 0, 1) := by decide +kernel
theorem dX2_isDigit_1 : decode cX2_isDigit 1 = .ok (.bipush 48, 2) := by decide +kernel
theorem dX2_isDigit_3 : decode cX2_isDigit 3 = .ok (.bipush 57, 2) := by decide +kernel
theorem dX2_isDigit_5 : decode cX2_isDigit 5 = .ok (.invokestatic 43, 3) := by decide +kernel
theorem dX2_isDigit_8 : decode cX2_isDigit 8 = .ok (.ireturn, 1) := by decide +kernel
theorem dX2_isNext_0 : decode cX2_isNext 0 = .ok (.aload_n 0, 1) := by decide +kernel
theorem dX2_isNext_1 : decode cX2_isNext 1 = .ok (.getfield 31, 3) := by decide +kernel
theorem dX2_isNext_4 : decode cX2_isNext 4 = .ok (.aload_n 0, 1) := by decide +kernel
theorem dX2_isNext_5 : decode cX2_isNext 5 = .ok (.getfield 19, 3) := by decide +kernel
theorem dX2_isNext_8 : decode cX2_isNext 8 = .ok (.if_icmp .ge 20, 3) := by decide +kernel
theorem dX2_isNext_11 : decode cX2_isNext 11 = .ok (.aload_n 0, 1) := by decide +kernel
theorem dX2_isNext_12 : decode cX2_isNext 12 = .ok (.getfield 22, 3) := by decide +kernel
theorem dX2_isNext_15 : decode cX2_isNext 15 = .ok (.aload_n 0, 1) := by decide +kernel
theorem dX2_isNext_16 : decode cX2_isNext 16 = .ok (.getfield 31, 3) := by decide +kernel
theorem dX2_isNext_19 : decode cX2_isNext 19 = .ok (.iaload, 1) := by decide +kernel
theorem dX2_isNext_20 : decode cX2_isNext 20 = .ok (.iload_n 1, 1) := by decide +kernel
theorem dX2_isNext_21 : decode cX2_isNext 21 = .ok (.if_icmp .ne 7, 3) := by decide +kernel
theorem dX2_isNext_24 : decode cX2_isNext 24 = .ok (.iconst 1, 1) := by decide +kernel
theorem dX2_isNext_25 : decode cX2_isNext 25 = .ok (.goto 4, 3) := by decide +kernel
theorem dX2_isNext_28 : decode cX2_isNext 28 = .ok (.iconst 0, 1) := by decide +kernel
theorem dX2_isNext_29 : decode cX2_isNext 29 = .ok (.ireturn, 1) := by decide +kernel
theorem dX2_take_0 : decode cX2_take 0 = .ok (.aload_n 0, 1) := by decide +kernel
theorem dX2_take_1 : decode cX2_take 1 = .ok (.iload_n 1, 1) := by decide +kernel
theorem dX2_take_2 : decode cX2_take 2 = .ok (.invokevirtual 57, 3) := by decide +kernel
theorem dX2_take_5 : decode cX2_take 5 = .ok (.istore_n 2, 1) := by decide +kernel
theorem dX2_take_6 : decode cX2_take 6 = .ok (.iload_n 2, 1) := by decide +kernel
theorem dX2_take_7 : decode cX2_take 7 = .ok (.ifCond .eq 13, 3) := by decide +kernel
theorem dX2_take_10 : decode cX2_take 10 = .ok (.aload_n 0, 1) := by decide +kernel
theorem dX2_take_11 : decode cX2_take 11 = .ok (.dup, 1) := by decide +kernel
theorem dX2_take_12 : decode cX2_take 12 = .ok (.getfield 31, 3) := by decide +kernel
theorem dX2_take_15 : decode cX2_take 15 = .ok (.iconst 1, 1) := by decide +kernel
theorem dX2_take_16 : decode cX2_take 16 = .ok (.iadd, 1) := by decide +kernel
theorem dX2_take_17 : decode cX2_take 17 = .ok (.putfield 31, 3) := by decide +kernel
theorem dX2_take_20 : decode cX2_take 20 = .ok (.iload_n 2, 1) := by decide +kernel
theorem dX2_take_21 : decode cX2_take 21 = .ok (.ireturn, 1) := by decide +kernel
theorem dX2_takeSome_0 : decode cX2_takeSome 0 = .ok (.iconst 0, 1) := by decide +kernel
theorem dX2_takeSome_1 : decode cX2_takeSome 1 = .ok (.istore_n 3, 1) := by decide +kernel
theorem dX2_takeSome_2 : decode cX2_takeSome 2 = .ok (.iload_n 3, 1) := by decide +kernel
theorem dX2_takeSome_3 : decode cX2_takeSome 3 = .ok (.iload_n 2, 1) := by decide +kernel
theorem dX2_takeSome_4 : decode cX2_takeSome 4 = .ok (.if_icmp .ge 27, 3) := by decide +kernel
theorem dX2_takeSome_7 : decode cX2_takeSome 7 = .ok (.aload_n 0, 1) := by decide +kernel
theorem dX2_takeSome_8 : decode cX2_takeSome 8 = .ok (.iload_n 1, 1) := by decide +kernel
theorem dX2_takeSome_9 : decode cX2_takeSome 9 = .ok (.invokevirtual 57, 3) := by decide +kernel
theorem dX2_takeSome_12 : decode cX2_takeSome 12 = .ok (.ifCond .eq 19, 3) := by decide +kernel
theorem dX2_takeSome_15 : decode cX2_takeSome 15 = .ok (.aload_n 0, 1) := by decide +kernel
theorem dX2_takeSome_16 : decode cX2_takeSome 16 = .ok (.dup, 1) := by decide +kernel
theorem dX2_takeSome_17 : decode cX2_takeSome 17 = .ok (.getfield 31, 3) := by decide +kernel
theorem dX2_takeSome_20 : decode cX2_takeSome 20 = .ok (.iconst 1, 1) := by decide +kernel
theorem dX2_takeSome_21 : decode cX2_takeSome 21 = .ok (.iadd, 1) := by decide +kernel
theorem dX2_takeSome_22 : decode cX2_takeSome 22 = .ok (.putfield 31, 3) := by decide +kernel
theorem dX2_takeSome_25 : decode cX2_takeSome 25 = .ok (.iinc 3 1, 3) := by decide +kernel
theorem dX2_takeSome_28 : decode cX2_takeSome 28 = .ok (.goto (-26), 3) := by decide +kernel
theorem dX2_takeSome_31 : decode cX2_takeSome 31 = .ok (.iload_n 3, 1) := by decide +kernel
theorem dX2_takeSome_32 : decode cX2_takeSome 32 = .ok (.ireturn, 1) := by decide +kernel
theorem dX2_write_0 : decode cX2_write 0 = .ok (.aload_n 0, 1) := by decide +kernel
theorem dX2_write_1 : decode cX2_write 1 = .ok (.getfield 34, 3) := by decide +kernel
theorem dX2_write_4 : decode cX2_write 4 = .ok (.sipush 160, 3) := by decide +kernel
theorem dX2_write_7 : decode cX2_write 7 = .ok (.if_icmp .ge 23, 3) := by decide +kernel
theorem dX2_write_10 : decode cX2_write 10 = .ok (.aload_n 0, 1) := by decide +kernel
theorem dX2_write_11 : decode cX2_write 11 = .ok (.getfield 37, 3) := by decide +kernel
theorem dX2_write_14 : decode cX2_write 14 = .ok (.aload_n 0, 1) := by decide +kernel
theorem dX2_write_15 : decode cX2_write 15 = .ok (.getfield 34, 3) := by decide +kernel
theorem dX2_write_18 : decode cX2_write 18 = .ok (.iload_n 1, 1) := by decide +kernel
theorem dX2_write_19 : decode cX2_write 19 = .ok (.iastore, 1) := by decide +kernel
theorem dX2_write_20 : decode cX2_write 20 = .ok (.aload_n 0, 1) := by decide +kernel
theorem dX2_write_21 : decode cX2_write 21 = .ok (.dup, 1) := by decide +kernel
theorem dX2_write_22 : decode cX2_write 22 = .ok (.getfield 34, 3) := by decide +kernel
theorem dX2_write_25 : decode cX2_write 25 = .ok (.iconst 1, 1) := by decide +kernel
theorem dX2_write_26 : decode cX2_write 26 = .ok (.iadd, 1) := by decide +kernel
theorem dX2_write_27 : decode cX2_write 27 = .ok (.putfield 34, 3) := by decide +kernel
theorem dX2_write_30 : decode cX2_write 30 = .ok (.iconst 1, 1) := by decide +kernel
theorem dX2_write_31 : decode cX2_write 31 = .ok (.ireturn, 1) := by decide +kernel
theorem dX2_writeSome_0 : decode cX2_writeSome 0 = .ok (.iconst 0, 1) := by decide +kernel
theorem dX2_writeSome_1 : decode cX2_writeSome 1 = .ok (.istore_n 3, 1) := by decide +kernel
theorem dX2_writeSome_2 : decode cX2_writeSome 2 = .ok (.iload_n 3, 1) := by decide +kernel
theorem dX2_writeSome_3 : decode cX2_writeSome 3 = .ok (.iload_n 2, 1) := by decide +kernel
theorem dX2_writeSome_4 : decode cX2_writeSome 4 = .ok (.if_icmp .ge 15, 3) := by decide +kernel
theorem dX2_writeSome_7 : decode cX2_writeSome 7 = .ok (.aload_n 0, 1) := by decide +kernel
theorem dX2_writeSome_8 : decode cX2_writeSome 8 = .ok (.iload_n 1, 1) := by decide +kernel
theorem dX2_writeSome_9 : decode cX2_writeSome 9 = .ok (.invokevirtual 101, 3) := by decide +kernel
theorem dX2_writeSome_12 : decode cX2_writeSome 12 = .ok (.pop, 1) := by decide +kernel
theorem dX2_writeSome_13 : decode cX2_writeSome 13 = .ok (.iinc 3 1, 3) := by decide +kernel
theorem dX2_writeSome_16 : decode cX2_writeSome 16 = .ok (.goto (-14), 3) := by decide +kernel
theorem dX2_writeSome_19 : decode cX2_writeSome 19 = .ok (.iconst 1, 1) := by decide +kernel
theorem dX2_writeSome_20 : decode cX2_writeSome 20 = .ok (.ireturn, 1) := by decide +kernel
theorem dX2_either_0 : decode cX2_either 0 = .ok (.aload_n 0, 1) := by decide +kernel
theorem dX2_either_1 : decode cX2_either 1 = .ok (.iload_n 1, 1) := by decide +kernel
theorem dX2_either_2 : decode cX2_either 2 = .ok (.invokevirtual 104, 3) := by decide +kernel
theorem dX2_either_5 : decode cX2_either 5 = .ok (.ifCond .ne 5, 3) := by decide +kernel
theorem dX2_either_8 : decode cX2_either 8 = .ok (.iconst 0, 1) := by decide +kernel
theorem dX2_either_9 : decode cX2_either 9 = .ok (.ireturn, 1) := by decide +kernel
theorem dX2_either_10 : decode cX2_either 10 = .ok (.iconst 0, 1) := by decide +kernel
theorem dX2_either_11 : decode cX2_either 11 = .ok (.istore_n 2, 1) := by decide +kernel
theorem dX2_either_12 : decode cX2_either 12 = .ok (.iload_n 2, 1) := by decide +kernel
theorem dX2_either_13 : decode cX2_either 13 = .ok (.sipush 160, 3) := by decide +kernel
theorem dX2_either_16 : decode cX2_either 16 = .ok (.if_icmp .ge 34, 3) := by decide +kernel
theorem dX2_either_19 : decode cX2_either 19 = .ok (.aload_n 0, 1) := by decide +kernel
theorem dX2_either_20 : decode cX2_either 20 = .ok (.iconst 4, 1) := by decide +kernel
theorem dX2_either_21 : decode cX2_either 21 = .ok (.invokevirtual 50, 3) := by decide +kernel
theorem dX2_either_24 : decode cX2_either 24 = .ok (.ifCond .eq 26, 3) := by decide +kernel
theorem dX2_either_27 : decode cX2_either 27 = .ok (.aload_n 0, 1) := by decide +kernel
theorem dX2_either_28 : decode cX2_either 28 = .ok (.iload_n 1, 1) := by decide +kernel
theorem dX2_either_29 : decode cX2_either 29 = .ok (.invokevirtual 104, 3) := by decide +kernel
theorem dX2_either_32 : decode cX2_either 32 = .ok (.ifCond .ne 5, 3) := by decide +kernel
theorem dX2_either_35 : decode cX2_either 35 = .ok (.iconst 0, 1) := by decide +kernel
theorem dX2_either_36 : decode cX2_either 36 = .ok (.ireturn, 1) := by decide +kernel
theorem dX2_either_37 : decode cX2_either 37 = .ok (.aload_n 0, 1) := by decide +kernel
theorem dX2_either_38 : decode cX2_either 38 = .ok (.bipush (-12), 2) := by decide +kernel
theorem dX2_either_40 : decode cX2_either 40 = .ok (.invokevirtual 101, 3) := by decide +kernel
theorem dX2_either_43 : decode cX2_either 43 = .ok (.pop, 1) := by decide +kernel
theorem dX2_either_44 : decode cX2_either 44 = .ok (.iinc 2 1, 3) := by decide +kernel
theorem dX2_either_47 : decode cX2_either 47 = .ok (.goto (-35), 3) := by decide +kernel
theorem dX2_either_50 : decode cX2_either 50 = .ok (.iconst 1, 1) := by decide +kernel
theorem dX2_either_51 : decode cX2_either 51 = .ok (.ireturn, 1) := by decide +kernel
theorem dX2_both_0 : decode cX2_both 0 = .ok (.aload_n 0, 1) := by decide +kernel
theorem dX2_both_1 : decode cX2_both 1 = .ok (.iload_n 1, 1) := by decide +kernel
theorem dX2_both_2 : decode cX2_both 2 = .ok (.invokevirtual 109, 3) := by decide +kernel
theorem dX2_both_5 : decode cX2_both 5 = .ok (.ifCond .ne 5, 3) := by decide +kernel
theorem dX2_both_8 : decode cX2_both 8 = .ok (.iconst 0, 1) := by decide +kernel
theorem dX2_both_9 : decode cX2_both 9 = .ok (.ireturn, 1) := by decide +kernel
theorem dX2_both_10 : decode cX2_both 10 = .ok (.iconst 0, 1) := by decide +kernel
theorem dX2_both_11 : decode cX2_both 11 = .ok (.istore_n 2, 1) := by decide +kernel
theorem dX2_both_12 : decode cX2_both 12 = .ok (.iload_n 2, 1) := by decide +kernel
theorem dX2_both_13 : decode cX2_both 13 = .ok (.sipush 160, 3) := by decide +kernel
theorem dX2_both_16 : decode cX2_both 16 = .ok (.if_icmp .ge 34, 3) := by decide +kernel
theorem dX2_both_19 : decode cX2_both 19 = .ok (.aload_n 0, 1) := by decide +kernel
theorem dX2_both_20 : decode cX2_both 20 = .ok (.iconst 5, 1) := by decide +kernel
theorem dX2_both_21 : decode cX2_both 21 = .ok (.invokevirtual 50, 3) := by decide +kernel
theorem dX2_both_24 : decode cX2_both 24 = .ok (.ifCond .eq 26, 3) := by decide +kernel
theorem dX2_both_27 : decode cX2_both 27 = .ok (.aload_n 0, 1) := by decide +kernel
theorem dX2_both_28 : decode cX2_both 28 = .ok (.iload_n 1, 1) := by decide +kernel
theorem dX2_both_29 : decode cX2_both 29 = .ok (.invokevirtual 109, 3) := by decide +kernel
theorem dX2_both_32 : decode cX2_both 32 = .ok (.ifCond .ne 5, 3) := by decide +kernel
theorem dX2_both_35 : decode cX2_both 35 = .ok (.iconst 0, 1) := by decide +kernel
theorem dX2_both_36 : decode cX2_both 36 = .ok (.ireturn, 1) := by decide +kernel
theorem dX2_both_37 : decode cX2_both 37 = .ok (.aload_n 0, 1) := by decide +kernel
theorem dX2_both_38 : decode cX2_both 38 = .ok (.bipush (-13), 2) := by decide +kernel
theorem dX2_both_40 : decode cX2_both 40 = .ok (.invokevirtual 101, 3) := by decide +kernel
theorem dX2_both_43 : decode cX2_both 43 = .ok (.pop, 1) := by decide +kernel
theorem dX2_both_44 : decode cX2_both 44 = .ok (.iinc 2 1, 3) := by decide +kernel
theorem dX2_both_47 : decode cX2_both 47 = .ok (.goto (-35), 3) := by decide +kernel
theorem dX2_both_50 : decode cX2_both 50 = .ok (.iconst 1, 1) := by decide +kernel
theorem dX2_both_51 : decode cX2_both 51 = .ok (.ireturn, 1) := by decide +kernel
theorem dX2_denied_0 : decode cX2_denied 0 = .ok (.aload_n 0, 1) := by decide +kernel
theorem dX2_denied_1 : decode cX2_denied 1 = .ok (.bipush 6, 2) := by decide +kernel
theorem dX2_denied_3 : decode cX2_denied 3 = .ok (.iconst 5, 1) := by decide +kernel
theorem dX2_denied_4 : decode cX2_denied 4 = .ok (.iload_n 1, 1) := by decide +kernel
theorem dX2_denied_5 : decode cX2_denied 5 = .ok (.isub, 1) := by decide +kernel
theorem dX2_denied_6 : decode cX2_denied 6 = .ok (.invokevirtual 112, 3) := by decide +kernel
theorem dX2_denied_9 : decode cX2_denied 9 = .ok (.istore_n 2, 1) := by decide +kernel
theorem dX2_denied_10 : decode cX2_denied 10 = .ok (.aload_n 0, 1) := by decide +kernel
theorem dX2_denied_11 : decode cX2_denied 11 = .ok (.iload_n 1, 1) := by decide +kernel
theorem dX2_denied_12 : decode cX2_denied 12 = .ok (.iload_n 2, 1) := by decide +kernel
theorem dX2_denied_13 : decode cX2_denied 13 = .ok (.iadd, 1) := by decide +kernel
theorem dX2_denied_14 : decode cX2_denied 14 = .ok (.invokevirtual 115, 3) := by decide +kernel
theorem dX2_denied_17 : decode cX2_denied 17 = .ok (.ifCond .eq 17, 3) := by decide +kernel
theorem dX2_denied_20 : decode cX2_denied 20 = .ok (.aload_n 0, 1) := by decide +kernel
theorem dX2_denied_21 : decode cX2_denied 21 = .ok (.bipush (-10), 2) := by decide +kernel
theorem dX2_denied_23 : decode cX2_denied 23 = .ok (.iload_n 2, 1) := by decide +kernel
theorem dX2_denied_24 : decode cX2_denied 24 = .ok (.invokevirtual 118, 3) := by decide +kernel
theorem dX2_denied_27 : decode cX2_denied 27 = .ok (.ifCond .eq 7, 3) := by decide +kernel
theorem dX2_denied_30 : decode cX2_denied 30 = .ok (.iconst 1, 1) := by decide +kernel
theorem dX2_denied_31 : decode cX2_denied 31 = .ok (.goto 4, 3) := by decide +kernel
theorem dX2_denied_34 : decode cX2_denied 34 = .ok (.iconst 0, 1) := by decide +kernel
theorem dX2_denied_35 : decode cX2_denied 35 = .ok (.ireturn, 1) := by decide +kernel
theorem dX2_compared_0 : decode cX2_compared 0 = .ok (.aload_n 0, 1) := by decide +kernel
theorem dX2_compared_1 : decode cX2_compared 1 = .ok (.iload_n 1, 1) := by decide +kernel
theorem dX2_compared_2 : decode cX2_compared 2 = .ok (.invokevirtual 122, 3) := by decide +kernel
theorem dX2_compared_5 : decode cX2_compared 5 = .ok (.ifCond .ne 5, 3) := by decide +kernel
theorem dX2_compared_8 : decode cX2_compared 8 = .ok (.iconst 0, 1) := by decide +kernel
theorem dX2_compared_9 : decode cX2_compared 9 = .ok (.ireturn, 1) := by decide +kernel
theorem dX2_compared_10 : decode cX2_compared 10 = .ok (.aload_n 0, 1) := by decide +kernel
theorem dX2_compared_11 : decode cX2_compared 11 = .ok (.bipush 60, 2) := by decide +kernel
theorem dX2_compared_13 : decode cX2_compared 13 = .ok (.invokevirtual 50, 3) := by decide +kernel
theorem dX2_compared_16 : decode cX2_compared 16 = .ok (.ifCond .eq 26, 3) := by decide +kernel
theorem dX2_compared_19 : decode cX2_compared 19 = .ok (.aload_n 0, 1) := by decide +kernel
theorem dX2_compared_20 : decode cX2_compared 20 = .ok (.iload_n 1, 1) := by decide +kernel
theorem dX2_compared_21 : decode cX2_compared 21 = .ok (.invokevirtual 122, 3) := by decide +kernel
theorem dX2_compared_24 : decode cX2_compared 24 = .ok (.ifCond .eq 16, 3) := by decide +kernel
theorem dX2_compared_27 : decode cX2_compared 27 = .ok (.aload_n 0, 1) := by decide +kernel
theorem dX2_compared_28 : decode cX2_compared 28 = .ok (.bipush (-14), 2) := by decide +kernel
theorem dX2_compared_30 : decode cX2_compared 30 = .ok (.invokevirtual 101, 3) := by decide +kernel
theorem dX2_compared_33 : decode cX2_compared 33 = .ok (.ifCond .eq 7, 3) := by decide +kernel
theorem dX2_compared_36 : decode cX2_compared 36 = .ok (.iconst 1, 1) := by decide +kernel
theorem dX2_compared_37 : decode cX2_compared 37 = .ok (.goto 4, 3) := by decide +kernel
theorem dX2_compared_40 : decode cX2_compared 40 = .ok (.iconst 0, 1) := by decide +kernel
theorem dX2_compared_41 : decode cX2_compared 41 = .ok (.ireturn, 1) := by decide +kernel
theorem dX2_compared_42 : decode cX2_compared 42 = .ok (.aload_n 0, 1) := by decide +kernel
theorem dX2_compared_43 : decode cX2_compared 43 = .ok (.bipush 61, 2) := by decide +kernel
theorem dX2_compared_45 : decode cX2_compared 45 = .ok (.invokevirtual 50, 3) := by decide +kernel
theorem dX2_compared_48 : decode cX2_compared 48 = .ok (.ifCond .eq 20, 3) := by decide +kernel
theorem dX2_compared_51 : decode cX2_compared 51 = .ok (.aload_n 0, 1) := by decide +kernel
theorem dX2_compared_52 : decode cX2_compared 52 = .ok (.iload_n 1, 1) := by decide +kernel
theorem dX2_compared_53 : decode cX2_compared 53 = .ok (.invokevirtual 122, 3) := by decide +kernel
theorem dX2_compared_56 : decode cX2_compared 56 = .ok (.ifCond .eq 16, 3) := by decide +kernel
theorem dX2_compared_59 : decode cX2_compared 59 = .ok (.aload_n 0, 1) := by decide +kernel
theorem dX2_compared_60 : decode cX2_compared 60 = .ok (.bipush (-15), 2) := by decide +kernel
theorem dX2_compared_62 : decode cX2_compared 62 = .ok (.invokevirtual 101, 3) := by decide +kernel
theorem dX2_compared_65 : decode cX2_compared 65 = .ok (.ifCond .eq 7, 3) := by decide +kernel
theorem dX2_compared_68 : decode cX2_compared 68 = .ok (.iconst 1, 1) := by decide +kernel
theorem dX2_compared_69 : decode cX2_compared 69 = .ok (.goto 4, 3) := by decide +kernel
theorem dX2_compared_72 : decode cX2_compared 72 = .ok (.iconst 0, 1) := by decide +kernel
theorem dX2_compared_73 : decode cX2_compared 73 = .ok (.ireturn, 1) := by decide +kernel
theorem dX2_sum_0 : decode cX2_sum 0 = .ok (.aload_n 0, 1) := by decide +kernel
theorem dX2_sum_1 : decode cX2_sum 1 = .ok (.iload_n 1, 1) := by decide +kernel
theorem dX2_sum_2 : decode cX2_sum 2 = .ok (.invokevirtual 125, 3) := by decide +kernel
theorem dX2_sum_5 : decode cX2_sum 5 = .ok (.ifCond .ne 5, 3) := by decide +kernel
theorem dX2_sum_8 : decode cX2_sum 8 = .ok (.iconst 0, 1) := by decide +kernel
theorem dX2_sum_9 : decode cX2_sum 9 = .ok (.ireturn, 1) := by decide +kernel
theorem dX2_sum_10 : decode cX2_sum 10 = .ok (.iconst 0, 1) := by decide +kernel
theorem dX2_sum_11 : decode cX2_sum 11 = .ok (.istore_n 2, 1) := by decide +kernel
theorem dX2_sum_12 : decode cX2_sum 12 = .ok (.iload_n 2, 1) := by decide +kernel
theorem dX2_sum_13 : decode cX2_sum 13 = .ok (.sipush 160, 3) := by decide +kernel
theorem dX2_sum_16 : decode cX2_sum 16 = .ok (.if_icmp .ge 70, 3) := by decide +kernel
theorem dX2_sum_19 : decode cX2_sum 19 = .ok (.aload_n 0, 1) := by decide +kernel
theorem dX2_sum_20 : decode cX2_sum 20 = .ok (.bipush 43, 2) := by decide +kernel
theorem dX2_sum_22 : decode cX2_sum 22 = .ok (.invokevirtual 57, 3) := by decide +kernel
theorem dX2_sum_25 : decode cX2_sum 25 = .ok (.ifCond .ne 12, 3) := by decide +kernel
theorem dX2_sum_28 : decode cX2_sum 28 = .ok (.aload_n 0, 1) := by decide +kernel
theorem dX2_sum_29 : decode cX2_sum 29 = .ok (.bipush 45, 2) := by decide +kernel
theorem dX2_sum_31 : decode cX2_sum 31 = .ok (.invokevirtual 57, 3) := by decide +kernel
theorem dX2_sum_34 : decode cX2_sum 34 = .ok (.ifCond .eq 52, 3) := by decide +kernel
theorem dX2_sum_37 : decode cX2_sum 37 = .ok (.aload_n 0, 1) := by decide +kernel
theorem dX2_sum_38 : decode cX2_sum 38 = .ok (.bipush 43, 2) := by decide +kernel
theorem dX2_sum_40 : decode cX2_sum 40 = .ok (.invokevirtual 57, 3) := by decide +kernel
theorem dX2_sum_43 : decode cX2_sum 43 = .ok (.ifCond .eq 8, 3) := by decide +kernel
theorem dX2_sum_46 : decode cX2_sum 46 = .ok (.bipush (-16), 2) := by decide +kernel
theorem dX2_sum_48 : decode cX2_sum 48 = .ok (.goto 5, 3) := by decide +kernel
theorem dX2_sum_51 : decode cX2_sum 51 = .ok (.bipush (-17), 2) := by decide +kernel
theorem dX2_sum_53 : decode cX2_sum 53 = .ok (.istore_n 3, 1) := by decide +kernel
theorem dX2_sum_54 : decode cX2_sum 54 = .ok (.aload_n 0, 1) := by decide +kernel
theorem dX2_sum_55 : decode cX2_sum 55 = .ok (.dup, 1) := by decide +kernel
theorem dX2_sum_56 : decode cX2_sum 56 = .ok (.getfield 31, 3) := by decide +kernel
theorem dX2_sum_59 : decode cX2_sum 59 = .ok (.iconst 1, 1) := by decide +kernel
theorem dX2_sum_60 : decode cX2_sum 60 = .ok (.iadd, 1) := by decide +kernel
theorem dX2_sum_61 : decode cX2_sum 61 = .ok (.putfield 31, 3) := by decide +kernel
theorem dX2_sum_64 : decode cX2_sum 64 = .ok (.aload_n 0, 1) := by decide +kernel
theorem dX2_sum_65 : decode cX2_sum 65 = .ok (.iload_n 1, 1) := by decide +kernel
theorem dX2_sum_66 : decode cX2_sum 66 = .ok (.invokevirtual 125, 3) := by decide +kernel
theorem dX2_sum_69 : decode cX2_sum 69 = .ok (.ifCond .ne 5, 3) := by decide +kernel
theorem dX2_sum_72 : decode cX2_sum 72 = .ok (.iconst 0, 1) := by decide +kernel
theorem dX2_sum_73 : decode cX2_sum 73 = .ok (.ireturn, 1) := by decide +kernel
theorem dX2_sum_74 : decode cX2_sum 74 = .ok (.aload_n 0, 1) := by decide +kernel
theorem dX2_sum_75 : decode cX2_sum 75 = .ok (.iload_n 3, 1) := by decide +kernel
theorem dX2_sum_76 : decode cX2_sum 76 = .ok (.invokevirtual 101, 3) := by decide +kernel
theorem dX2_sum_79 : decode cX2_sum 79 = .ok (.pop, 1) := by decide +kernel
theorem dX2_sum_80 : decode cX2_sum 80 = .ok (.iinc 2 1, 3) := by decide +kernel
theorem dX2_sum_83 : decode cX2_sum 83 = .ok (.goto (-71), 3) := by decide +kernel
theorem dX2_sum_86 : decode cX2_sum 86 = .ok (.iconst 1, 1) := by decide +kernel
theorem dX2_sum_87 : decode cX2_sum 87 = .ok (.ireturn, 1) := by decide +kernel
theorem dX2_term_0 : decode cX2_term 0 = .ok (.aload_n 0, 1) := by decide +kernel
theorem dX2_term_1 : decode cX2_term 1 = .ok (.iload_n 1, 1) := by decide +kernel
theorem dX2_term_2 : decode cX2_term 2 = .ok (.invokevirtual 128, 3) := by decide +kernel
theorem dX2_term_5 : decode cX2_term 5 = .ok (.ifCond .ne 5, 3) := by decide +kernel
theorem dX2_term_8 : decode cX2_term 8 = .ok (.iconst 0, 1) := by decide +kernel
theorem dX2_term_9 : decode cX2_term 9 = .ok (.ireturn, 1) := by decide +kernel
theorem dX2_term_10 : decode cX2_term 10 = .ok (.iconst 0, 1) := by decide +kernel
theorem dX2_term_11 : decode cX2_term 11 = .ok (.istore_n 2, 1) := by decide +kernel
theorem dX2_term_12 : decode cX2_term 12 = .ok (.iload_n 2, 1) := by decide +kernel
theorem dX2_term_13 : decode cX2_term 13 = .ok (.sipush 160, 3) := by decide +kernel
theorem dX2_term_16 : decode cX2_term 16 = .ok (.if_icmp .ge 35, 3) := by decide +kernel
theorem dX2_term_19 : decode cX2_term 19 = .ok (.aload_n 0, 1) := by decide +kernel
theorem dX2_term_20 : decode cX2_term 20 = .ok (.bipush 42, 2) := by decide +kernel
theorem dX2_term_22 : decode cX2_term 22 = .ok (.invokevirtual 50, 3) := by decide +kernel
theorem dX2_term_25 : decode cX2_term 25 = .ok (.ifCond .eq 26, 3) := by decide +kernel
theorem dX2_term_28 : decode cX2_term 28 = .ok (.aload_n 0, 1) := by decide +kernel
theorem dX2_term_29 : decode cX2_term 29 = .ok (.iload_n 1, 1) := by decide +kernel
theorem dX2_term_30 : decode cX2_term 30 = .ok (.invokevirtual 128, 3) := by decide +kernel
theorem dX2_term_33 : decode cX2_term 33 = .ok (.ifCond .ne 5, 3) := by decide +kernel
theorem dX2_term_36 : decode cX2_term 36 = .ok (.iconst 0, 1) := by decide +kernel
theorem dX2_term_37 : decode cX2_term 37 = .ok (.ireturn, 1) := by decide +kernel
theorem dX2_term_38 : decode cX2_term 38 = .ok (.aload_n 0, 1) := by decide +kernel
theorem dX2_term_39 : decode cX2_term 39 = .ok (.bipush (-18), 2) := by decide +kernel
theorem dX2_term_41 : decode cX2_term 41 = .ok (.invokevirtual 101, 3) := by decide +kernel
theorem dX2_term_44 : decode cX2_term 44 = .ok (.pop, 1) := by decide +kernel
theorem dX2_term_45 : decode cX2_term 45 = .ok (.iinc 2 1, 3) := by decide +kernel
theorem dX2_term_48 : decode cX2_term 48 = .ok (.goto (-36), 3) := by decide +kernel
theorem dX2_term_51 : decode cX2_term 51 = .ok (.iconst 1, 1) := by decide +kernel
theorem dX2_term_52 : decode cX2_term 52 = .ok (.ireturn, 1) := by decide +kernel
theorem dX2_one_0 : decode cX2_one 0 = .ok (.aload_n 0, 1) := by decide +kernel
theorem dX2_one_1 : decode cX2_one 1 = .ok (.bipush 45, 2) := by decide +kernel
theorem dX2_one_3 : decode cX2_one 3 = .ok (.iconst 5, 1) := by decide +kernel
theorem dX2_one_4 : decode cX2_one 4 = .ok (.iload_n 1, 1) := by decide +kernel
theorem dX2_one_5 : decode cX2_one 5 = .ok (.isub, 1) := by decide +kernel
theorem dX2_one_6 : decode cX2_one 6 = .ok (.invokevirtual 112, 3) := by decide +kernel
theorem dX2_one_9 : decode cX2_one 9 = .ok (.istore_n 2, 1) := by decide +kernel
theorem dX2_one_10 : decode cX2_one 10 = .ok (.aload_n 0, 1) := by decide +kernel
theorem dX2_one_11 : decode cX2_one 11 = .ok (.iload_n 1, 1) := by decide +kernel
theorem dX2_one_12 : decode cX2_one 12 = .ok (.iload_n 2, 1) := by decide +kernel
theorem dX2_one_13 : decode cX2_one 13 = .ok (.iadd, 1) := by decide +kernel
theorem dX2_one_14 : decode cX2_one 14 = .ok (.invokevirtual 131, 3) := by decide +kernel
theorem dX2_one_17 : decode cX2_one 17 = .ok (.ifCond .eq 17, 3) := by decide +kernel
theorem dX2_one_20 : decode cX2_one 20 = .ok (.aload_n 0, 1) := by decide +kernel
theorem dX2_one_21 : decode cX2_one 21 = .ok (.bipush (-11), 2) := by decide +kernel
theorem dX2_one_23 : decode cX2_one 23 = .ok (.iload_n 2, 1) := by decide +kernel
theorem dX2_one_24 : decode cX2_one 24 = .ok (.invokevirtual 118, 3) := by decide +kernel
theorem dX2_one_27 : decode cX2_one 27 = .ok (.ifCond .eq 7, 3) := by decide +kernel
theorem dX2_one_30 : decode cX2_one 30 = .ok (.iconst 1, 1) := by decide +kernel
theorem dX2_one_31 : decode cX2_one 31 = .ok (.goto 4, 3) := by decide +kernel
theorem dX2_one_34 : decode cX2_one 34 = .ok (.iconst 0, 1) := by decide +kernel
theorem dX2_one_35 : decode cX2_one 35 = .ok (.ireturn, 1) := by decide +kernel
theorem dX2_single_0 : decode cX2_single 0 = .ok (.aload_n 0, 1) := by decide +kernel
theorem dX2_single_1 : decode cX2_single 1 = .ok (.getfield 31, 3) := by decide +kernel
theorem dX2_single_4 : decode cX2_single 4 = .ok (.aload_n 0, 1) := by decide +kernel
theorem dX2_single_5 : decode cX2_single 5 = .ok (.getfield 19, 3) := by decide +kernel
theorem dX2_single_8 : decode cX2_single 8 = .ok (.if_icmp .lt 5, 3) := by decide +kernel
theorem dX2_single_11 : decode cX2_single 11 = .ok (.iconst 0, 1) := by decide +kernel
theorem dX2_single_12 : decode cX2_single 12 = .ok (.ireturn, 1) := by decide +kernel
theorem dX2_single_13 : decode cX2_single 13 = .ok (.aload_n 0, 1) := by decide +kernel
theorem dX2_single_14 : decode cX2_single 14 = .ok (.getfield 22, 3) := by decide +kernel
theorem dX2_single_17 : decode cX2_single 17 = .ok (.aload_n 0, 1) := by decide +kernel
theorem dX2_single_18 : decode cX2_single 18 = .ok (.getfield 31, 3) := by decide +kernel
theorem dX2_single_21 : decode cX2_single 21 = .ok (.iaload, 1) := by decide +kernel
theorem dX2_single_22 : decode cX2_single 22 = .ok (.istore_n 2, 1) := by decide +kernel
theorem dX2_single_23 : decode cX2_single 23 = .ok (.iload_n 2, 1) := by decide +kernel
theorem dX2_single_24 : decode cX2_single 24 = .ok (.bipush 40, 2) := by decide +kernel
theorem dX2_single_26 : decode cX2_single 26 = .ok (.if_icmp .ne 42, 3) := by decide +kernel
theorem dX2_single_29 : decode cX2_single 29 = .ok (.iload_n 1, 1) := by decide +kernel
theorem dX2_single_30 : decode cX2_single 30 = .ok (.iconst 5, 1) := by decide +kernel
theorem dX2_single_31 : decode cX2_single 31 = .ok (.if_icmp .ge 35, 3) := by decide +kernel
theorem dX2_single_34 : decode cX2_single 34 = .ok (.aload_n 0, 1) := by decide +kernel
theorem dX2_single_35 : decode cX2_single 35 = .ok (.bipush 40, 2) := by decide +kernel
theorem dX2_single_37 : decode cX2_single 37 = .ok (.invokevirtual 50, 3) := by decide +kernel
theorem dX2_single_40 : decode cX2_single 40 = .ok (.ifCond .eq 26, 3) := by decide +kernel
theorem dX2_single_43 : decode cX2_single 43 = .ok (.aload_n 0, 1) := by decide +kernel
theorem dX2_single_44 : decode cX2_single 44 = .ok (.iload_n 1, 1) := by decide +kernel
theorem dX2_single_45 : decode cX2_single 45 = .ok (.iconst 1, 1) := by decide +kernel
theorem dX2_single_46 : decode cX2_single 46 = .ok (.iadd, 1) := by decide +kernel
theorem dX2_single_47 : decode cX2_single 47 = .ok (.invokevirtual 54, 3) := by decide +kernel
theorem dX2_single_50 : decode cX2_single 50 = .ok (.ifCond .eq 16, 3) := by decide +kernel
theorem dX2_single_53 : decode cX2_single 53 = .ok (.aload_n 0, 1) := by decide +kernel
theorem dX2_single_54 : decode cX2_single 54 = .ok (.bipush 41, 2) := by decide +kernel
theorem dX2_single_56 : decode cX2_single 56 = .ok (.invokevirtual 50, 3) := by decide +kernel
theorem dX2_single_59 : decode cX2_single 59 = .ok (.ifCond .eq 7, 3) := by decide +kernel
theorem dX2_single_62 : decode cX2_single 62 = .ok (.iconst 1, 1) := by decide +kernel
theorem dX2_single_63 : decode cX2_single 63 = .ok (.goto 4, 3) := by decide +kernel
theorem dX2_single_66 : decode cX2_single 66 = .ok (.iconst 0, 1) := by decide +kernel
theorem dX2_single_67 : decode cX2_single 67 = .ok (.ireturn, 1) := by decide +kernel
theorem dX2_single_68 : decode cX2_single 68 = .ok (.iload_n 2, 1) := by decide +kernel
theorem dX2_single_69 : decode cX2_single 69 = .ok (.bipush 13, 2) := by decide +kernel
theorem dX2_single_71 : decode cX2_single 71 = .ok (.if_icmp .ne 20, 3) := by decide +kernel
theorem dX2_single_74 : decode cX2_single 74 = .ok (.aload_n 0, 1) := by decide +kernel
theorem dX2_single_75 : decode cX2_single 75 = .ok (.aload_n 0, 1) := by decide +kernel
theorem dX2_single_76 : decode cX2_single 76 = .ok (.getfield 28, 3) := by decide +kernel
theorem dX2_single_79 : decode cX2_single 79 = .ok (.aload_n 0, 1) := by decide +kernel
theorem dX2_single_80 : decode cX2_single 80 = .ok (.getfield 31, 3) := by decide +kernel
theorem dX2_single_83 : decode cX2_single 83 = .ok (.iaload, 1) := by decide +kernel
theorem dX2_single_84 : decode cX2_single 84 = .ok (.invokevirtual 101, 3) := by decide +kernel
theorem dX2_single_87 : decode cX2_single 87 = .ok (.pop, 1) := by decide +kernel
theorem dX2_single_88 : decode cX2_single 88 = .ok (.goto 30, 3) := by decide +kernel
theorem dX2_single_91 : decode cX2_single 91 = .ok (.iload_n 2, 1) := by decide +kernel
theorem dX2_single_92 : decode cX2_single 92 = .ok (.bipush 7, 2) := by decide +kernel
theorem dX2_single_94 : decode cX2_single 94 = .ok (.bipush 12, 2) := by decide +kernel
theorem dX2_single_96 : decode cX2_single 96 = .ok (.invokestatic 43, 3) := by decide +kernel
theorem dX2_single_99 : decode cX2_single 99 = .ok (.ifCond .eq 17, 3) := by decide +kernel
theorem dX2_single_102 : decode cX2_single 102 = .ok (.aload_n 0, 1) := by decide +kernel
theorem dX2_single_103 : decode cX2_single 103 = .ok (.iconst (-1), 1) := by decide +kernel
theorem dX2_single_104 : decode cX2_single 104 = .ok (.iload_n 2, 1) := by decide +kernel
theorem dX2_single_105 : decode cX2_single 105 = .ok (.bipush 7, 2) := by decide +kernel
theorem dX2_single_107 : decode cX2_single 107 = .ok (.isub, 1) := by decide +kernel
theorem dX2_single_108 : decode cX2_single 108 = .ok (.isub, 1) := by decide +kernel
theorem dX2_single_109 : decode cX2_single 109 = .ok (.invokevirtual 101, 3) := by decide +kernel
theorem dX2_single_112 : decode cX2_single 112 = .ok (.pop, 1) := by decide +kernel
theorem dX2_single_113 : decode cX2_single 113 = .ok (.goto 5, 3) := by decide +kernel
theorem dX2_single_116 : decode cX2_single 116 = .ok (.iconst 0, 1) := by decide +kernel
theorem dX2_single_117 : decode cX2_single 117 = .ok (.ireturn, 1) := by decide +kernel
theorem dX2_single_118 : decode cX2_single 118 = .ok (.aload_n 0, 1) := by decide +kernel
theorem dX2_single_119 : decode cX2_single 119 = .ok (.dup, 1) := by decide +kernel
theorem dX2_single_120 : decode cX2_single 120 = .ok (.getfield 31, 3) := by decide +kernel
theorem dX2_single_123 : decode cX2_single 123 = .ok (.iconst 1, 1) := by decide +kernel
theorem dX2_single_124 : decode cX2_single 124 = .ok (.iadd, 1) := by decide +kernel
theorem dX2_single_125 : decode cX2_single 125 = .ok (.putfield 31, 3) := by decide +kernel
theorem dX2_single_128 : decode cX2_single 128 = .ok (.iconst 1, 1) := by decide +kernel
theorem dX2_single_129 : decode cX2_single 129 = .ok (.ireturn, 1) := by decide +kernel
theorem dX3_init_0 : decode cX3_init 0 = .ok (.aload_n 0, 1) := by decide +kernel
theorem dX3_init_1 : decode cX3_init 1 = .ok (.invokespecial 3, 3) := by decide +kernel
theorem dX3_init_4 : decode cX3_init 4 = .ok (.aload_n 0, 1) := by decide +kernel
theorem dX3_init_5 : decode cX3_init 5 = .ok (.iconst 0, 1) := by decide +kernel
theorem dX3_init_6 : decode cX3_init 6 = .ok (.putfield 9, 3) := by decide +kernel
theorem dX3_init_9 : decode cX3_init 9 = .ok (.aload_n 0, 1) := by decide +kernel
theorem dX3_init_10 : decode cX3_init 10 = .ok (.lconst 0, 1) := by decide +kernel
theorem dX3_init_11 : decode cX3_init 11 = .ok (.putfield 15, 3) := by decide +kernel
theorem dX3_init_14 : decode cX3_init 14 = .ok (.aload_n 0, 1) := by decide +kernel
theorem dX3_init_15 : decode cX3_init 15 = .ok (.iconst 0, 1) := by decide +kernel
theorem dX3_init_16 : decode cX3_init 16 = .ok (.putfield 19, 3) := by decide +kernel
theorem dX3_init_19 : decode cX3_init 19 = .ok (.aload_n 0, 1) := by decide +kernel
theorem dX3_init_20 : decode cX3_init 20 = .ok (.aload_n 1, 1) := by decide +kernel
theorem dX3_init_21 : decode cX3_init 21 = .ok (.putfield 22, 3) := by decide +kernel
theorem dX3_init_24 : decode cX3_init 24 = .ok (.return_, 1) := by decide +kernel
theorem dX3_start_0 : decode cX3_start 0 = .ok (.aload_n 0, 1) := by decide +kernel
theorem dX3_start_1 : decode cX3_start 1 = .ok (.iload_n 1, 1) := by decide +kernel
theorem dX3_start_2 : decode cX3_start 2 = .ok (.putfield 9, 3) := by decide +kernel
theorem dX3_start_5 : decode cX3_start 5 = .ok (.aload_n 0, 1) := by decide +kernel
theorem dX3_start_6 : decode cX3_start 6 = .ok (.lload_n 2, 1) := by decide +kernel
theorem dX3_start_7 : decode cX3_start 7 = .ok (.putfield 15, 3) := by decide +kernel
theorem dX3_start_10 : decode cX3_start 10 = .ok (.aload_n 0, 1) := by decide +kernel
theorem dX3_start_11 : decode cX3_start 11 = .ok (.iconst 0, 1) := by decide +kernel
theorem dX3_start_12 : decode cX3_start 12 = .ok (.putfield 19, 3) := by decide +kernel
theorem dX3_start_15 : decode cX3_start 15 = .ok (.aload_n 0, 1) := by decide +kernel
theorem dX3_start_16 : decode cX3_start 16 = .ok (.iload_n 1, 1) := by decide +kernel
theorem dX3_start_17 : decode cX3_start 17 = .ok (.lload_n 2, 1) := by decide +kernel
theorem dX3_start_18 : decode cX3_start 18 = .ok (.iconst 0, 1) := by decide +kernel
theorem dX3_start_19 : decode cX3_start 19 = .ok (.iconst 1, 1) := by decide +kernel
theorem dX3_start_20 : decode cX3_start 20 = .ok (.iload_n 1, 1) := by decide +kernel
theorem dX3_start_21 : decode cX3_start 21 = .ok (.ishl, 1) := by decide +kernel
theorem dX3_start_22 : decode cX3_start 22 = .ok (.invokestatic 26, 3) := by decide +kernel
theorem dX3_start_25 : decode cX3_start 25 = .ok (.return_, 1) := by decide +kernel
theorem dX3_goOn_0 : decode cX3_goOn 0 = .ok (.iload 4, 2) := by decide +kernel
theorem dX3_goOn_2 : decode cX3_goOn 2 = .ok (.sipush 999, 3) := by decide +kernel
theorem dX3_goOn_5 : decode cX3_goOn 5 = .ok (.if_icmp .le 4, 3) := by decide +kernel
theorem dX3_goOn_8 : decode cX3_goOn 8 = .ok (.return_, 1) := by decide +kernel
theorem dX3_goOn_9 : decode cX3_goOn 9 = .ok (.iconst 0, 1) := by decide +kernel
theorem dX3_goOn_10 : decode cX3_goOn 10 = .ok (.istore 6, 2) := by decide +kernel
theorem dX3_goOn_12 : decode cX3_goOn 12 = .ok (.iload 6, 2) := by decide +kernel
theorem dX3_goOn_14 : decode cX3_goOn 14 = .ok (.iconst 4, 1) := by decide +kernel
theorem dX3_goOn_15 : decode cX3_goOn 15 = .ok (.if_icmp .ge 82, 3) := by decide +kernel
theorem dX3_goOn_18 : decode cX3_goOn 18 = .ok (.iload 6, 2) := by decide +kernel
theorem dX3_goOn_20 : decode cX3_goOn 20 = .ok (.aload_n 0, 1) := by decide +kernel
theorem dX3_goOn_21 : decode cX3_goOn 21 = .ok (.getfield 9, 3) := by decide +kernel
theorem dX3_goOn_24 : decode cX3_goOn 24 = .ok (.if_icmp .ne 23, 3) := by decide +kernel
theorem dX3_goOn_27 : decode cX3_goOn 27 = .ok (.aload_n 0, 1) := by decide +kernel
theorem dX3_goOn_28 : decode cX3_goOn 28 = .ok (.aload_n 0, 1) := by decide +kernel
theorem dX3_goOn_29 : decode cX3_goOn 29 = .ok (.getfield 22, 3) := by decide +kernel
theorem dX3_goOn_32 : decode cX3_goOn 32 = .ok (.iload_n 1, 1) := by decide +kernel
theorem dX3_goOn_33 : decode cX3_goOn 33 = .ok (.iload 6, 2) := by decide +kernel
theorem dX3_goOn_35 : decode cX3_goOn 35 = .ok (.lload_n 2, 1) := by decide +kernel
theorem dX3_goOn_36 : decode cX3_goOn 36 = .ok (.invokevirtual 30, 3) := by decide +kernel
theorem dX3_goOn_39 : decode cX3_goOn 39 = .ok (.iload 4, 2) := by decide +kernel
theorem dX3_goOn_41 : decode cX3_goOn 41 = .ok (.invokevirtual 36, 3) := by decide +kernel
theorem dX3_goOn_44 : decode cX3_goOn 44 = .ok (.goto 47, 3) := by decide +kernel
theorem dX3_goOn_47 : decode cX3_goOn 47 = .ok (.iload 5, 2) := by decide +kernel
theorem dX3_goOn_49 : decode cX3_goOn 49 = .ok (.iload 6, 2) := by decide +kernel
theorem dX3_goOn_51 : decode cX3_goOn 51 = .ok (.invokestatic 40, 3) := by decide +kernel
theorem dX3_goOn_54 : decode cX3_goOn 54 = .ok (.ifCond .ne 37, 3) := by decide +kernel
theorem dX3_goOn_57 : decode cX3_goOn 57 = .ok (.aload_n 0, 1) := by decide +kernel
theorem dX3_goOn_58 : decode cX3_goOn 58 = .ok (.iload 6, 2) := by decide +kernel
theorem dX3_goOn_60 : decode cX3_goOn 60 = .ok (.aload_n 0, 1) := by decide +kernel
theorem dX3_goOn_61 : decode cX3_goOn 61 = .ok (.getfield 22, 3) := by decide +kernel
theorem dX3_goOn_64 : decode cX3_goOn 64 = .ok (.iload_n 1, 1) := by decide +kernel
theorem dX3_goOn_65 : decode cX3_goOn 65 = .ok (.iload 6, 2) := by decide +kernel
theorem dX3_goOn_67 : decode cX3_goOn 67 = .ok (.lload_n 2, 1) := by decide +kernel
theorem dX3_goOn_68 : decode cX3_goOn 68 = .ok (.invokevirtual 30, 3) := by decide +kernel
theorem dX3_goOn_71 : decode cX3_goOn 71 = .ok (.iload 4, 2) := by decide +kernel
theorem dX3_goOn_73 : decode cX3_goOn 73 = .ok (.bipush 10, 2) := by decide +kernel
theorem dX3_goOn_75 : decode cX3_goOn 75 = .ok (.imul, 1) := by decide +kernel
theorem dX3_goOn_76 : decode cX3_goOn 76 = .ok (.iload 6, 2) := by decide +kernel
theorem dX3_goOn_78 : decode cX3_goOn 78 = .ok (.iadd, 1) := by decide +kernel
theorem dX3_goOn_79 : decode cX3_goOn 79 = .ok (.iconst 1, 1) := by decide +kernel
theorem dX3_goOn_80 : decode cX3_goOn 80 = .ok (.iadd, 1) := by decide +kernel
theorem dX3_goOn_81 : decode cX3_goOn 81 = .ok (.iload 5, 2) := by decide +kernel
theorem dX3_goOn_83 : decode cX3_goOn 83 = .ok (.iconst 1, 1) := by decide +kernel
theorem dX3_goOn_84 : decode cX3_goOn 84 = .ok (.iload 6, 2) := by decide +kernel
theorem dX3_goOn_86 : decode cX3_goOn 86 = .ok (.ishl, 1) := by decide +kernel
theorem dX3_goOn_87 : decode cX3_goOn 87 = .ok (.ior, 1) := by decide +kernel
theorem dX3_goOn_88 : decode cX3_goOn 88 = .ok (.invokestatic 26, 3) := by decide +kernel
theorem dX3_goOn_91 : decode cX3_goOn 91 = .ok (.iinc 6 1, 3) := by decide +kernel
theorem dX3_goOn_94 : decode cX3_goOn 94 = .ok (.goto (-82), 3) := by decide +kernel
theorem dX3_goOn_97 : decode cX3_goOn 97 = .ok (.return_, 1) := by decide +kernel
theorem dX3_compare_0 : decode cX3_compare 0 = .ok (.iload_n 3, 1) := by decide +kernel
theorem dX3_compare_1 : decode cX3_compare 1 = .ok (.ifCond .le 22, 3) := by decide +kernel
theorem dX3_compare_4 : decode cX3_compare 4 = .ok (.lload_n 1, 1) := by decide +kernel
theorem dX3_compare_5 : decode cX3_compare 5 = .ok (.aload_n 0, 1) := by decide +kernel
theorem dX3_compare_6 : decode cX3_compare 6 = .ok (.getfield 15, 3) := by decide +kernel
theorem dX3_compare_9 : decode cX3_compare 9 = .ok (.lcmp, 1) := by decide +kernel
theorem dX3_compare_10 : decode cX3_compare 10 = .ok (.ifCond .le 13, 3) := by decide +kernel
theorem dX3_compare_13 : decode cX3_compare 13 = .ok (.aload_n 0, 1) := by decide +kernel
theorem dX3_compare_14 : decode cX3_compare 14 = .ok (.lload_n 1, 1) := by decide +kernel
theorem dX3_compare_15 : decode cX3_compare 15 = .ok (.putfield 15, 3) := by decide +kernel
theorem dX3_compare_18 : decode cX3_compare 18 = .ok (.aload_n 0, 1) := by decide +kernel
theorem dX3_compare_19 : decode cX3_compare 19 = .ok (.iload_n 3, 1) := by decide +kernel
theorem dX3_compare_20 : decode cX3_compare 20 = .ok (.putfield 19, 3) := by decide +kernel
theorem dX3_compare_23 : decode cX3_compare 23 = .ok (.return_, 1) := by decide +kernel
theorem dX4_init_0 : decode cX4_init 0 = .ok (.aload_n 0, 1) := by decide +kernel
theorem dX4_init_1 : decode cX4_init 1 = .ok (.invokespecial 3, 3) := by decide +kernel
theorem dX4_init_4 : decode cX4_init 4 = .ok (.aload_n 0, 1) := by decide +kernel
theorem dX4_init_5 : decode cX4_init 5 = .ok (.iconst 0, 1) := by decide +kernel
theorem dX4_init_6 : decode cX4_init 6 = .ok (.putfield 9, 3) := by decide +kernel
theorem dX4_init_9 : decode cX4_init 9 = .ok (.aload_n 0, 1) := by decide +kernel
theorem dX4_init_10 : decode cX4_init 10 = .ok (.iconst (-1), 1) := by decide +kernel
theorem dX4_init_11 : decode cX4_init 11 = .ok (.putfield 15, 3) := by decide +kernel
theorem dX4_init_14 : decode cX4_init 14 = .ok (.aload_n 0, 1) := by decide +kernel
theorem dX4_init_15 : decode cX4_init 15 = .ok (.iconst 3, 1) := by decide +kernel
theorem dX4_init_16 : decode cX4_init 16 = .ok (.newarray .int, 2) := by decide +kernel
theorem dX4_init_18 : decode cX4_init 18 = .ok (.putfield 18, 3) := by decide +kernel
theorem dX4_init_21 : decode cX4_init 21 = .ok (.aload_n 0, 1) := by decide +kernel
theorem dX4_init_22 : decode cX4_init 22 = .ok (.iconst 3, 1) := by decide +kernel
theorem dX4_init_23 : decode cX4_init 23 = .ok (.newarray .int, 2) := by decide +kernel
theorem dX4_init_25 : decode cX4_init 25 = .ok (.putfield 22, 3) := by decide +kernel
theorem dX4_init_28 : decode cX4_init 28 = .ok (.aload_n 0, 1) := by decide +kernel
theorem dX4_init_29 : decode cX4_init 29 = .ok (.bipush 90, 2) := by decide +kernel
theorem dX4_init_31 : decode cX4_init 31 = .ok (.newarray .int, 2) := by decide +kernel
theorem dX4_init_33 : decode cX4_init 33 = .ok (.putfield 25, 3) := by decide +kernel
theorem dX4_init_36 : decode cX4_init 36 = .ok (.aload_n 0, 1) := by decide +kernel
theorem dX4_init_37 : decode cX4_init 37 = .ok (.aload_n 1, 1) := by decide +kernel
theorem dX4_init_38 : decode cX4_init 38 = .ok (.putfield 28, 3) := by decide +kernel
theorem dX4_init_41 : decode cX4_init 41 = .ok (.return_, 1) := by decide +kernel
theorem dX4_start_0 : decode cX4_start 0 = .ok (.aload_n 0, 1) := by decide +kernel
theorem dX4_start_1 : decode cX4_start 1 = .ok (.iload_n 1, 1) := by decide +kernel
theorem dX4_start_2 : decode cX4_start 2 = .ok (.iconst 3, 1) := by decide +kernel
theorem dX4_start_3 : decode cX4_start 3 = .ok (.invokestatic 32, 3) := by decide +kernel
theorem dX4_start_6 : decode cX4_start 6 = .ok (.putfield 9, 3) := by decide +kernel
theorem dX4_start_9 : decode cX4_start 9 = .ok (.aload_n 0, 1) := by decide +kernel
theorem dX4_start_10 : decode cX4_start 10 = .ok (.iconst (-1), 1) := by decide +kernel
theorem dX4_start_11 : decode cX4_start 11 = .ok (.putfield 15, 3) := by decide +kernel
theorem dX4_start_14 : decode cX4_start 14 = .ok (.iconst 0, 1) := by decide +kernel
theorem dX4_start_15 : decode cX4_start 15 = .ok (.istore_n 2, 1) := by decide +kernel
theorem dX4_start_16 : decode cX4_start 16 = .ok (.iload_n 2, 1) := by decide +kernel
theorem dX4_start_17 : decode cX4_start 17 = .ok (.aload_n 0, 1) := by decide +kernel
theorem dX4_start_18 : decode cX4_start 18 = .ok (.getfield 28, 3) := by decide +kernel
theorem dX4_start_21 : decode cX4_start 21 = .ok (.getfield 38, 3) := by decide +kernel
theorem dX4_start_24 : decode cX4_start 24 = .ok (.if_icmp .ge 48, 3) := by decide +kernel
theorem dX4_start_27 : decode cX4_start 27 = .ok (.iconst 0, 1) := by decide +kernel
theorem dX4_start_28 : decode cX4_start 28 = .ok (.istore_n 3, 1) := by decide +kernel
theorem dX4_start_29 : decode cX4_start 29 = .ok (.iload_n 3, 1) := by decide +kernel
theorem dX4_start_30 : decode cX4_start 30 = .ok (.aload_n 0, 1) := by decide +kernel
theorem dX4_start_31 : decode cX4_start 31 = .ok (.getfield 28, 3) := by decide +kernel
theorem dX4_start_34 : decode cX4_start 34 = .ok (.getfield 43, 3) := by decide +kernel
theorem dX4_start_37 : decode cX4_start 37 = .ok (.if_icmp .ge 29, 3) := by decide +kernel
theorem dX4_start_40 : decode cX4_start 40 = .ok (.aload_n 0, 1) := by decide +kernel
theorem dX4_start_41 : decode cX4_start 41 = .ok (.getfield 25, 3) := by decide +kernel
theorem dX4_start_44 : decode cX4_start 44 = .ok (.iconst 0, 1) := by decide +kernel
theorem dX4_start_45 : decode cX4_start 45 = .ok (.iload_n 2, 1) := by decide +kernel
theorem dX4_start_46 : decode cX4_start 46 = .ok (.iload_n 3, 1) := by decide +kernel
theorem dX4_start_47 : decode cX4_start 47 = .ok (.invokestatic 46, 3) := by decide +kernel
theorem dX4_start_50 : decode cX4_start 50 = .ok (.aload_n 0, 1) := by decide +kernel
theorem dX4_start_51 : decode cX4_start 51 = .ok (.getfield 28, 3) := by decide +kernel
theorem dX4_start_54 : decode cX4_start 54 = .ok (.iload_n 2, 1) := by decide +kernel
theorem dX4_start_55 : decode cX4_start 55 = .ok (.iload_n 3, 1) := by decide +kernel
theorem dX4_start_56 : decode cX4_start 56 = .ok (.invokevirtual 50, 3) := by decide +kernel
theorem dX4_start_59 : decode cX4_start 59 = .ok (.iastore, 1) := by decide +kernel
theorem dX4_start_60 : decode cX4_start 60 = .ok (.iinc 3 1, 3) := by decide +kernel
theorem dX4_start_63 : decode cX4_start 63 = .ok (.goto (-34), 3) := by decide +kernel
theorem dX4_start_66 : decode cX4_start 66 = .ok (.iinc 2 1, 3) := by decide +kernel
theorem dX4_start_69 : decode cX4_start 69 = .ok (.goto (-53), 3) := by decide +kernel
theorem dX4_start_72 : decode cX4_start 72 = .ok (.aload_n 0, 1) := by decide +kernel
theorem dX4_start_73 : decode cX4_start 73 = .ok (.iconst 0, 1) := by decide +kernel
theorem dX4_start_74 : decode cX4_start 74 = .ok (.iconst 0, 1) := by decide +kernel
theorem dX4_start_75 : decode cX4_start 75 = .ok (.invokestatic 53, 3) := by decide +kernel
theorem dX4_start_78 : decode cX4_start 78 = .ok (.return_, 1) := by decide +kernel
theorem dX4_bestAt_0 : decode cX4_bestAt 0 = .ok (.iload_n 1, 1) := by decide +kernel
theorem dX4_bestAt_1 : decode cX4_bestAt 1 = .ok (.iconst 0, 1) := by decide +kernel
theorem dX4_bestAt_2 : decode cX4_bestAt 2 = .ok (.iconst 2, 1) := by decide +kernel
theorem dX4_bestAt_3 : decode cX4_bestAt 3 = .ok (.invokestatic 57, 3) := by decide +kernel
theorem dX4_bestAt_6 : decode cX4_bestAt 6 = .ok (.ifCond .eq 12, 3) := by decide +kernel
theorem dX4_bestAt_9 : decode cX4_bestAt 9 = .ok (.aload_n 0, 1) := by decide +kernel
theorem dX4_bestAt_10 : decode cX4_bestAt 10 = .ok (.getfield 22, 3) := by decide +kernel
theorem dX4_bestAt_13 : decode cX4_bestAt 13 = .ok (.iload_n 1, 1) := by decide +kernel
theorem dX4_bestAt_14 : decode cX4_bestAt 14 = .ok (.iaload, 1) := by decide +kernel
theorem dX4_bestAt_15 : decode cX4_bestAt 15 = .ok (.goto 4, 3) := by decide +kernel
theorem dX4_bestAt_18 : decode cX4_bestAt 18 = .ok (.iconst (-1), 1) := by decide +kernel
theorem dX4_bestAt_19 : decode cX4_bestAt 19 = .ok (.ireturn, 1) := by decide +kernel
theorem dX4_place_0 : decode cX4_place 0 = .ok (.iload_n 0, 1) := by decide +kernel
theorem dX4_place_1 : decode cX4_place 1 = .ok (.bipush 30, 2) := by decide +kernel
theorem dX4_place_3 : decode cX4_place 3 = .ok (.imul, 1) := by decide +kernel
theorem dX4_place_4 : decode cX4_place 4 = .ok (.iload_n 1, 1) := by decide +kernel
theorem dX4_place_5 : decode cX4_place 5 = .ok (.bipush 6, 2) := by decide +kernel
theorem dX4_place_7 : decode cX4_place 7 = .ok (.imul, 1) := by decide +kernel
theorem dX4_place_8 : decode cX4_place 8 = .ok (.iadd, 1) := by decide +kernel
theorem dX4_place_9 : decode cX4_place 9 = .ok (.iload_n 2, 1) := by decide +kernel
theorem dX4_place_10 : decode cX4_place 10 = .ok (.iadd, 1) := by decide +kernel
theorem dX4_place_11 : decode cX4_place 11 = .ok (.ireturn, 1) := by decide +kernel
theorem dX4_descend_0 : decode cX4_descend 0 = .ok (.iload_n 1, 1) := by decide +kernel
theorem dX4_descend_1 : decode cX4_descend 1 = .ok (.aload_n 0, 1) := by decide +kernel
theorem dX4_descend_2 : decode cX4_descend 2 = .ok (.getfield 9, 3) := by decide +kernel
theorem dX4_descend_5 : decode cX4_descend 5 = .ok (.if_icmp .lt 4, 3) := by decide +kernel
theorem dX4_descend_8 : decode cX4_descend 8 = .ok (.return_, 1) := by decide +kernel
theorem dX4_descend_9 : decode cX4_descend 9 = .ok (.aload_n 0, 1) := by decide +kernel
theorem dX4_descend_10 : decode cX4_descend 10 = .ok (.getfield 28, 3) := by decide +kernel
theorem dX4_descend_13 : decode cX4_descend 13 = .ok (.astore_n 3, 1) := by decide +kernel
theorem dX4_descend_14 : decode cX4_descend 14 = .ok (.iconst 0, 1) := by decide +kernel
theorem dX4_descend_15 : decode cX4_descend 15 = .ok (.istore 4, 2) := by decide +kernel
theorem dX4_descend_17 : decode cX4_descend 17 = .ok (.iload 4, 2) := by decide +kernel
theorem dX4_descend_19 : decode cX4_descend 19 = .ok (.aload_n 3, 1) := by decide +kernel
theorem dX4_descend_20 : decode cX4_descend 20 = .ok (.getfield 38, 3) := by decide +kernel
theorem dX4_descend_23 : decode cX4_descend 23 = .ok (.if_icmp .ge 163, 3) := by decide +kernel
theorem dX4_descend_26 : decode cX4_descend 26 = .ok (.iconst 0, 1) := by decide +kernel
theorem dX4_descend_27 : decode cX4_descend 27 = .ok (.istore 5, 2) := by decide +kernel
theorem dX4_descend_29 : decode cX4_descend 29 = .ok (.iload 5, 2) := by decide +kernel
theorem dX4_descend_31 : decode cX4_descend 31 = .ok (.aload_n 3, 1) := by decide +kernel
theorem dX4_descend_32 : decode cX4_descend 32 = .ok (.getfield 43, 3) := by decide +kernel
theorem dX4_descend_35 : decode cX4_descend 35 = .ok (.if_icmp .ge 145, 3) := by decide +kernel
theorem dX4_descend_38 : decode cX4_descend 38 = .ok (.aload_n 0, 1) := by decide +kernel
theorem dX4_descend_39 : decode cX4_descend 39 = .ok (.getfield 18, 3) := by decide +kernel
theorem dX4_descend_42 : decode cX4_descend 42 = .ok (.iload_n 1, 1) := by decide +kernel
theorem dX4_descend_43 : decode cX4_descend 43 = .ok (.bipush 10, 2) := by decide +kernel
theorem dX4_descend_45 : decode cX4_descend 45 = .ok (.iload 4, 2) := by decide +kernel
theorem dX4_descend_47 : decode cX4_descend 47 = .ok (.imul, 1) := by decide +kernel
theorem dX4_descend_48 : decode cX4_descend 48 = .ok (.iload 5, 2) := by decide +kernel
theorem dX4_descend_50 : decode cX4_descend 50 = .ok (.iadd, 1) := by decide +kernel
theorem dX4_descend_51 : decode cX4_descend 51 = .ok (.iastore, 1) := by decide +kernel
theorem dX4_descend_52 : decode cX4_descend 52 = .ok (.aload_n 0, 1) := by decide +kernel
theorem dX4_descend_53 : decode cX4_descend 53 = .ok (.getfield 25, 3) := by decide +kernel
theorem dX4_descend_56 : decode cX4_descend 56 = .ok (.iload_n 1, 1) := by decide +kernel
theorem dX4_descend_57 : decode cX4_descend 57 = .ok (.iload 4, 2) := by decide +kernel
theorem dX4_descend_59 : decode cX4_descend 59 = .ok (.iload 5, 2) := by decide +kernel
theorem dX4_descend_61 : decode cX4_descend 61 = .ok (.invokestatic 46, 3) := by decide +kernel
theorem dX4_descend_64 : decode cX4_descend 64 = .ok (.iaload, 1) := by decide +kernel
theorem dX4_descend_65 : decode cX4_descend 65 = .ok (.istore 6, 2) := by decide +kernel
theorem dX4_descend_67 : decode cX4_descend 67 = .ok (.iload_n 1, 1) := by decide +kernel
theorem dX4_descend_68 : decode cX4_descend 68 = .ok (.aload_n 0, 1) := by decide +kernel
theorem dX4_descend_69 : decode cX4_descend 69 = .ok (.getfield 9, 3) := by decide +kernel
theorem dX4_descend_72 : decode cX4_descend 72 = .ok (.iconst 1, 1) := by decide +kernel
theorem dX4_descend_73 : decode cX4_descend 73 = .ok (.isub, 1) := by decide +kernel
theorem dX4_descend_74 : decode cX4_descend 74 = .ok (.if_icmp .ne 14, 3) := by decide +kernel
theorem dX4_descend_77 : decode cX4_descend 77 = .ok (.aload_n 0, 1) := by decide +kernel
theorem dX4_descend_78 : decode cX4_descend 78 = .ok (.iload_n 2, 1) := by decide +kernel
theorem dX4_descend_79 : decode cX4_descend 79 = .ok (.iload 6, 2) := by decide +kernel
theorem dX4_descend_81 : decode cX4_descend 81 = .ok (.iadd, 1) := by decide +kernel
theorem dX4_descend_82 : decode cX4_descend 82 = .ok (.invokevirtual 61, 3) := by decide +kernel
theorem dX4_descend_85 : decode cX4_descend 85 = .ok (.goto 89, 3) := by decide +kernel
theorem dX4_descend_88 : decode cX4_descend 88 = .ok (.aload_n 3, 1) := by decide +kernel
theorem dX4_descend_89 : decode cX4_descend 89 = .ok (.getfield 65, 3) := by decide +kernel
theorem dX4_descend_92 : decode cX4_descend 92 = .ok (.iload 4, 2) := by decide +kernel
theorem dX4_descend_94 : decode cX4_descend 94 = .ok (.iaload, 1) := by decide +kernel
theorem dX4_descend_95 : decode cX4_descend 95 = .ok (.istore 7, 2) := by decide +kernel
theorem dX4_descend_97 : decode cX4_descend 97 = .ok (.aload_n 3, 1) := by decide +kernel
theorem dX4_descend_98 : decode cX4_descend 98 = .ok (.getfield 68, 3) := by decide +kernel
theorem dX4_descend_101 : decode cX4_descend 101 = .ok (.iload 5, 2) := by decide +kernel
theorem dX4_descend_103 : decode cX4_descend 103 = .ok (.iaload, 1) := by decide +kernel
theorem dX4_descend_104 : decode cX4_descend 104 = .ok (.istore 8, 2) := by decide +kernel
theorem dX4_descend_106 : decode cX4_descend 106 = .ok (.aload_n 3, 1) := by decide +kernel
theorem dX4_descend_107 : decode cX4_descend 107 = .ok (.getfield 71, 3) := by decide +kernel
theorem dX4_descend_110 : decode cX4_descend 110 = .ok (.iload 5, 2) := by decide +kernel
theorem dX4_descend_112 : decode cX4_descend 112 = .ok (.iaload, 1) := by decide +kernel
theorem dX4_descend_113 : decode cX4_descend 113 = .ok (.istore 9, 2) := by decide +kernel
theorem dX4_descend_115 : decode cX4_descend 115 = .ok (.aload_n 3, 1) := by decide +kernel
theorem dX4_descend_116 : decode cX4_descend 116 = .ok (.iload 4, 2) := by decide +kernel
theorem dX4_descend_118 : decode cX4_descend 118 = .ok (.iload 5, 2) := by decide +kernel
theorem dX4_descend_120 : decode cX4_descend 120 = .ok (.iload 6, 2) := by decide +kernel
theorem dX4_descend_122 : decode cX4_descend 122 = .ok (.invokevirtual 74, 3) := by decide +kernel
theorem dX4_descend_125 : decode cX4_descend 125 = .ok (.aload_n 0, 1) := by decide +kernel
theorem dX4_descend_126 : decode cX4_descend 126 = .ok (.iload_n 1, 1) := by decide +kernel
theorem dX4_descend_127 : decode cX4_descend 127 = .ok (.iconst 1, 1) := by decide +kernel
theorem dX4_descend_128 : decode cX4_descend 128 = .ok (.iadd, 1) := by decide +kernel
theorem dX4_descend_129 : decode cX4_descend 129 = .ok (.iload 4, 2) := by decide +kernel
theorem dX4_descend_131 : decode cX4_descend 131 = .ok (.iload 5, 2) := by decide +kernel
theorem dX4_descend_133 : decode cX4_descend 133 = .ok (.invokevirtual 78, 3) := by decide +kernel
theorem dX4_descend_136 : decode cX4_descend 136 = .ok (.aload_n 0, 1) := by decide +kernel
theorem dX4_descend_137 : decode cX4_descend 137 = .ok (.iload_n 1, 1) := by decide +kernel
theorem dX4_descend_138 : decode cX4_descend 138 = .ok (.iconst 1, 1) := by decide +kernel
theorem dX4_descend_139 : decode cX4_descend 139 = .ok (.iadd, 1) := by decide +kernel
theorem dX4_descend_140 : decode cX4_descend 140 = .ok (.iload_n 2, 1) := by decide +kernel
theorem dX4_descend_141 : decode cX4_descend 141 = .ok (.iload 6, 2) := by decide +kernel
theorem dX4_descend_143 : decode cX4_descend 143 = .ok (.iadd, 1) := by decide +kernel
theorem dX4_descend_144 : decode cX4_descend 144 = .ok (.invokestatic 53, 3) := by decide +kernel
theorem dX4_descend_147 : decode cX4_descend 147 = .ok (.aload_n 3, 1) := by decide +kernel
theorem dX4_descend_148 : decode cX4_descend 148 = .ok (.getfield 65, 3) := by decide +kernel
theorem dX4_descend_151 : decode cX4_descend 151 = .ok (.iload 4, 2) := by decide +kernel
theorem dX4_descend_153 : decode cX4_descend 153 = .ok (.iload 7, 2) := by decide +kernel
theorem dX4_descend_155 : decode cX4_descend 155 = .ok (.iastore, 1) := by decide +kernel
theorem dX4_descend_156 : decode cX4_descend 156 = .ok (.aload_n 3, 1) := by decide +kernel
theorem dX4_descend_157 : decode cX4_descend 157 = .ok (.getfield 68, 3) := by decide +kernel
theorem dX4_descend_160 : decode cX4_descend 160 = .ok (.iload 5, 2) := by decide +kernel
theorem dX4_descend_162 : decode cX4_descend 162 = .ok (.iload 8, 2) := by decide +kernel
theorem dX4_descend_164 : decode cX4_descend 164 = .ok (.iastore, 1) := by decide +kernel
theorem dX4_descend_165 : decode cX4_descend 165 = .ok (.aload_n 3, 1) := by decide +kernel
theorem dX4_descend_166 : decode cX4_descend 166 = .ok (.getfield 71, 3) := by decide +kernel
theorem dX4_descend_169 : decode cX4_descend 169 = .ok (.iload 5, 2) := by decide +kernel
theorem dX4_descend_171 : decode cX4_descend 171 = .ok (.iload 9, 2) := by decide +kernel
theorem dX4_descend_173 : decode cX4_descend 173 = .ok (.iastore, 1) := by decide +kernel
theorem dX4_descend_174 : decode cX4_descend 174 = .ok (.iinc 5 1, 3) := by decide +kernel
theorem dX4_descend_177 : decode cX4_descend 177 = .ok (.goto (-148), 3) := by decide +kernel
theorem dX4_descend_180 : decode cX4_descend 180 = .ok (.iinc 4 1, 3) := by decide +kernel
theorem dX4_descend_183 : decode cX4_descend 183 = .ok (.goto (-166), 3) := by decide +kernel
theorem dX4_descend_186 : decode cX4_descend 186 = .ok (.return_, 1) := by decide +kernel
theorem dX4_refresh_0 : decode cX4_refresh 0 = .ok (.aload_n 0, 1) := by decide +kernel
theorem dX4_refresh_1 : decode cX4_refresh 1 = .ok (.getfield 25, 3) := by decide +kernel
theorem dX4_refresh_4 : decode cX4_refresh 4 = .ok (.iload_n 1, 1) := by decide +kernel
theorem dX4_refresh_5 : decode cX4_refresh 5 = .ok (.iconst 1, 1) := by decide +kernel
theorem dX4_refresh_6 : decode cX4_refresh 6 = .ok (.isub, 1) := by decide +kernel
theorem dX4_refresh_7 : decode cX4_refresh 7 = .ok (.iconst 0, 1) := by decide +kernel
theorem dX4_refresh_8 : decode cX4_refresh 8 = .ok (.iconst 0, 1) := by decide +kernel
theorem dX4_refresh_9 : decode cX4_refresh 9 = .ok (.invokestatic 46, 3) := by decide +kernel
theorem dX4_refresh_12 : decode cX4_refresh 12 = .ok (.aload_n 0, 1) := by decide +kernel
theorem dX4_refresh_13 : decode cX4_refresh 13 = .ok (.getfield 25, 3) := by decide +kernel
theorem dX4_refresh_16 : decode cX4_refresh 16 = .ok (.iload_n 1, 1) := by decide +kernel
theorem dX4_refresh_17 : decode cX4_refresh 17 = .ok (.iconst 0, 1) := by decide +kernel
theorem dX4_refresh_18 : decode cX4_refresh 18 = .ok (.iconst 0, 1) := by decide +kernel
theorem dX4_refresh_19 : decode cX4_refresh 19 = .ok (.invokestatic 46, 3) := by decide +kernel
theorem dX4_refresh_22 : decode cX4_refresh 22 = .ok (.bipush 30, 2) := by decide +kernel
theorem dX4_refresh_24 : decode cX4_refresh 24 = .ok (.invokestatic 81, 3) := by decide +kernel
theorem dX4_refresh_27 : decode cX4_refresh 27 = .ok (.iconst 0, 1) := by decide +kernel
theorem dX4_refresh_28 : decode cX4_refresh 28 = .ok (.istore 4, 2) := by decide +kernel
theorem dX4_refresh_30 : decode cX4_refresh 30 = .ok (.iload 4, 2) := by decide +kernel
theorem dX4_refresh_32 : decode cX4_refresh 32 = .ok (.aload_n 0, 1) := by decide +kernel
theorem dX4_refresh_33 : decode cX4_refresh 33 = .ok (.getfield 28, 3) := by decide +kernel
theorem dX4_refresh_36 : decode cX4_refresh 36 = .ok (.getfield 43, 3) := by decide +kernel
theorem dX4_refresh_39 : decode cX4_refresh 39 = .ok (.if_icmp .ge 31, 3) := by decide +kernel
theorem dX4_refresh_42 : decode cX4_refresh 42 = .ok (.aload_n 0, 1) := by decide +kernel
theorem dX4_refresh_43 : decode cX4_refresh 43 = .ok (.getfield 25, 3) := by decide +kernel
theorem dX4_refresh_46 : decode cX4_refresh 46 = .ok (.iload_n 1, 1) := by decide +kernel
theorem dX4_refresh_47 : decode cX4_refresh 47 = .ok (.iload_n 2, 1) := by decide +kernel
theorem dX4_refresh_48 : decode cX4_refresh 48 = .ok (.iload 4, 2) := by decide +kernel
theorem dX4_refresh_50 : decode cX4_refresh 50 = .ok (.invokestatic 46, 3) := by decide +kernel
theorem dX4_refresh_53 : decode cX4_refresh 53 = .ok (.aload_n 0, 1) := by decide +kernel
theorem dX4_refresh_54 : decode cX4_refresh 54 = .ok (.getfield 28, 3) := by decide +kernel
theorem dX4_refresh_57 : decode cX4_refresh 57 = .ok (.iload_n 2, 1) := by decide +kernel
theorem dX4_refresh_58 : decode cX4_refresh 58 = .ok (.iload 4, 2) := by decide +kernel
theorem dX4_refresh_60 : decode cX4_refresh 60 = .ok (.invokevirtual 50, 3) := by decide +kernel
theorem dX4_refresh_63 : decode cX4_refresh 63 = .ok (.iastore, 1) := by decide +kernel
theorem dX4_refresh_64 : decode cX4_refresh 64 = .ok (.iinc 4 1, 3) := by decide +kernel
theorem dX4_refresh_67 : decode cX4_refresh 67 = .ok (.goto (-37), 3) := by decide +kernel
theorem dX4_refresh_70 : decode cX4_refresh 70 = .ok (.iconst 0, 1) := by decide +kernel
theorem dX4_refresh_71 : decode cX4_refresh 71 = .ok (.istore 4, 2) := by decide +kernel
theorem dX4_refresh_73 : decode cX4_refresh 73 = .ok (.iload 4, 2) := by decide +kernel
theorem dX4_refresh_75 : decode cX4_refresh 75 = .ok (.aload_n 0, 1) := by decide +kernel
theorem dX4_refresh_76 : decode cX4_refresh 76 = .ok (.getfield 28, 3) := by decide +kernel
theorem dX4_refresh_79 : decode cX4_refresh 79 = .ok (.getfield 38, 3) := by decide +kernel
theorem dX4_refresh_82 : decode cX4_refresh 82 = .ok (.if_icmp .ge 31, 3) := by decide +kernel
theorem dX4_refresh_85 : decode cX4_refresh 85 = .ok (.aload_n 0, 1) := by decide +kernel
theorem dX4_refresh_86 : decode cX4_refresh 86 = .ok (.getfield 25, 3) := by decide +kernel
theorem dX4_refresh_89 : decode cX4_refresh 89 = .ok (.iload_n 1, 1) := by decide +kernel
theorem dX4_refresh_90 : decode cX4_refresh 90 = .ok (.iload 4, 2) := by decide +kernel
theorem dX4_refresh_92 : decode cX4_refresh 92 = .ok (.iload_n 3, 1) := by decide +kernel
theorem dX4_refresh_93 : decode cX4_refresh 93 = .ok (.invokestatic 46, 3) := by decide +kernel
theorem dX4_refresh_96 : decode cX4_refresh 96 = .ok (.aload_n 0, 1) := by decide +kernel
theorem dX4_refresh_97 : decode cX4_refresh 97 = .ok (.getfield 28, 3) := by decide +kernel
theorem dX4_refresh_100 : decode cX4_refresh 100 = .ok (.iload 4, 2) := by decide +kernel
theorem dX4_refresh_102 : decode cX4_refresh 102 = .ok (.iload_n 3, 1) := by decide +kernel
theorem dX4_refresh_103 : decode cX4_refresh 103 = .ok (.invokevirtual 50, 3) := by decide +kernel
theorem dX4_refresh_106 : decode cX4_refresh 106 = .ok (.iastore, 1) := by decide +kernel
theorem dX4_refresh_107 : decode cX4_refresh 107 = .ok (.iinc 4 1, 3) := by decide +kernel
theorem dX4_refresh_110 : decode cX4_refresh 110 = .ok (.goto (-37), 3) := by decide +kernel
theorem dX4_refresh_113 : decode cX4_refresh 113 = .ok (.return_, 1) := by decide +kernel
theorem dX4_compare_0 : decode cX4_compare 0 = .ok (.iload_n 1, 1) := by decide +kernel
theorem dX4_compare_1 : decode cX4_compare 1 = .ok (.aload_n 0, 1) := by decide +kernel
theorem dX4_compare_2 : decode cX4_compare 2 = .ok (.getfield 15, 3) := by decide +kernel
theorem dX4_compare_5 : decode cX4_compare 5 = .ok (.if_icmp .le 33, 3) := by decide +kernel
theorem dX4_compare_8 : decode cX4_compare 8 = .ok (.aload_n 0, 1) := by decide +kernel
theorem dX4_compare_9 : decode cX4_compare 9 = .ok (.iload_n 1, 1) := by decide +kernel
theorem dX4_compare_10 : decode cX4_compare 10 = .ok (.putfield 15, 3) := by decide +kernel
theorem dX4_compare_13 : decode cX4_compare 13 = .ok (.iconst 0, 1) := by decide +kernel
theorem dX4_compare_14 : decode cX4_compare 14 = .ok (.istore_n 2, 1) := by decide +kernel
theorem dX4_compare_15 : decode cX4_compare 15 = .ok (.iload_n 2, 1) := by decide +kernel
theorem dX4_compare_16 : decode cX4_compare 16 = .ok (.iconst 3, 1) := by decide +kernel
theorem dX4_compare_17 : decode cX4_compare 17 = .ok (.if_icmp .ge 21, 3) := by decide +kernel
theorem dX4_compare_20 : decode cX4_compare 20 = .ok (.aload_n 0, 1) := by decide +kernel
theorem dX4_compare_21 : decode cX4_compare 21 = .ok (.getfield 22, 3) := by decide +kernel
theorem dX4_compare_24 : decode cX4_compare 24 = .ok (.iload_n 2, 1) := by decide +kernel
theorem dX4_compare_25 : decode cX4_compare 25 = .ok (.aload_n 0, 1) := by decide +kernel
theorem dX4_compare_26 : decode cX4_compare 26 = .ok (.getfield 18, 3) := by decide +kernel
theorem dX4_compare_29 : decode cX4_compare 29 = .ok (.iload_n 2, 1) := by decide +kernel
theorem dX4_compare_30 : decode cX4_compare 30 = .ok (.iaload, 1) := by decide +kernel
theorem dX4_compare_31 : decode cX4_compare 31 = .ok (.iastore, 1) := by decide +kernel
theorem dX4_compare_32 : decode cX4_compare 32 = .ok (.iinc 2 1, 3) := by decide +kernel
theorem dX4_compare_35 : decode cX4_compare 35 = .ok (.goto (-20), 3) := by decide +kernel
theorem dX4_compare_38 : decode cX4_compare 38 = .ok (.return_, 1) := by decide +kernel
theorem dX5_init_0 : decode cX5_init 0 = .ok (.aload_n 0, 1) := by decide +kernel
theorem dX5_init_1 : decode cX5_init 1 = .ok (.invokespecial 3, 3) := by decide +kernel
theorem dX5_init_4 : decode cX5_init 4 = .ok (.aload_n 0, 1) := by decide +kernel
theorem dX5_init_5 : decode cX5_init 5 = .ok (.iconst 4, 1) := by decide +kernel
theorem dX5_init_6 : decode cX5_init 6 = .ok (.newarray .int, 2) := by decide +kernel
theorem dX5_init_8 : decode cX5_init 8 = .ok (.dup, 1) := by decide +kernel
theorem dX5_init_9 : decode cX5_init 9 = .ok (.iconst 0, 1) := by decide +kernel
theorem dX5_init_10 : decode cX5_init 10 = .ok (.iconst (-1), 1) := by decide +kernel
theorem dX5_init_11 : decode cX5_init 11 = .ok (.iastore, 1) := by decide +kernel
theorem dX5_init_12 : decode cX5_init 12 = .ok (.dup, 1) := by decide +kernel
theorem dX5_init_13 : decode cX5_init 13 = .ok (.iconst 1, 1) := by decide +kernel
theorem dX5_init_14 : decode cX5_init 14 = .ok (.iconst (-1), 1) := by decide +kernel
theorem dX5_init_15 : decode cX5_init 15 = .ok (.iastore, 1) := by decide +kernel
theorem dX5_init_16 : decode cX5_init 16 = .ok (.dup, 1) := by decide +kernel
theorem dX5_init_17 : decode cX5_init 17 = .ok (.iconst 2, 1) := by decide +kernel
theorem dX5_init_18 : decode cX5_init 18 = .ok (.iconst (-1), 1) := by decide +kernel
theorem dX5_init_19 : decode cX5_init 19 = .ok (.iastore, 1) := by decide +kernel
theorem dX5_init_20 : decode cX5_init 20 = .ok (.dup, 1) := by decide +kernel
theorem dX5_init_21 : decode cX5_init 21 = .ok (.iconst 3, 1) := by decide +kernel
theorem dX5_init_22 : decode cX5_init 22 = .ok (.iconst (-1), 1) := by decide +kernel
theorem dX5_init_23 : decode cX5_init 23 = .ok (.iastore, 1) := by decide +kernel
theorem dX5_init_24 : decode cX5_init 24 = .ok (.putfield 11, 3) := by decide +kernel
theorem dX5_init_27 : decode cX5_init 27 = .ok (.aload_n 0, 1) := by decide +kernel
theorem dX5_init_28 : decode cX5_init 28 = .ok (.iconst 4, 1) := by decide +kernel
theorem dX5_init_29 : decode cX5_init 29 = .ok (.newarray .int, 2) := by decide +kernel
theorem dX5_init_31 : decode cX5_init 31 = .ok (.putfield 15, 3) := by decide +kernel
theorem dX5_init_34 : decode cX5_init 34 = .ok (.aload_n 0, 1) := by decide +kernel
theorem dX5_init_35 : decode cX5_init 35 = .ok (.sipush 160, 3) := by decide +kernel
theorem dX5_init_38 : decode cX5_init 38 = .ok (.newarray .int, 2) := by decide +kernel
theorem dX5_init_40 : decode cX5_init 40 = .ok (.putfield 18, 3) := by decide +kernel
theorem dX5_init_43 : decode cX5_init 43 = .ok (.return_, 1) := by decide +kernel
theorem dX5_isMissing_0 : decode cX5_isMissing 0 = .ok (.aload_n 0, 1) := by decide +kernel
theorem dX5_isMissing_1 : decode cX5_isMissing 1 = .ok (.getfield 11, 3) := by decide +kernel
theorem dX5_isMissing_4 : decode cX5_isMissing 4 = .ok (.iload_n 1, 1) := by decide +kernel
theorem dX5_isMissing_5 : decode cX5_isMissing 5 = .ok (.iaload, 1) := by decide +kernel
theorem dX5_isMissing_6 : decode cX5_isMissing 6 = .ok (.iconst (-1), 1) := by decide +kernel
theorem dX5_isMissing_7 : decode cX5_isMissing 7 = .ok (.if_icmp .ne 7, 3) := by decide +kernel
theorem dX5_isMissing_10 : decode cX5_isMissing 10 = .ok (.iconst 1, 1) := by decide +kernel
theorem dX5_isMissing_11 : decode cX5_isMissing 11 = .ok (.goto 4, 3) := by decide +kernel
theorem dX5_isMissing_14 : decode cX5_isMissing 14 = .ok (.iconst 0, 1) := by decide +kernel
theorem dX5_isMissing_15 : decode cX5_isMissing 15 = .ok (.ireturn, 1) := by decide +kernel
theorem dX5_renew_0 : decode cX5_renew 0 = .ok (.aload_n 0, 1) := by decide +kernel
theorem dX5_renew_1 : decode cX5_renew 1 = .ok (.getfield 11, 3) := by decide +kernel
theorem dX5_renew_4 : decode cX5_renew 4 = .ok (.iload_n 1, 1) := by decide +kernel
theorem dX5_renew_5 : decode cX5_renew 5 = .ok (.iload_n 2, 1) := by decide +kernel
theorem dX5_renew_6 : decode cX5_renew 6 = .ok (.iastore, 1) := by decide +kernel
theorem dX5_renew_7 : decode cX5_renew 7 = .ok (.aload_n 0, 1) := by decide +kernel
theorem dX5_renew_8 : decode cX5_renew 8 = .ok (.getfield 15, 3) := by decide +kernel
theorem dX5_renew_11 : decode cX5_renew 11 = .ok (.iload_n 1, 1) := by decide +kernel
theorem dX5_renew_12 : decode cX5_renew 12 = .ok (.iload_n 3, 1) := by decide +kernel
theorem dX5_renew_13 : decode cX5_renew 13 = .ok (.iastore, 1) := by decide +kernel
theorem dX5_renew_14 : decode cX5_renew 14 = .ok (.iconst 0, 1) := by decide +kernel
theorem dX5_renew_15 : decode cX5_renew 15 = .ok (.istore 4, 2) := by decide +kernel
theorem dX5_renew_17 : decode cX5_renew 17 = .ok (.iload 4, 2) := by decide +kernel
theorem dX5_renew_19 : decode cX5_renew 19 = .ok (.bipush 40, 2) := by decide +kernel
theorem dX5_renew_21 : decode cX5_renew 21 = .ok (.if_icmp .ge 22, 3) := by decide +kernel
theorem dX5_renew_24 : decode cX5_renew 24 = .ok (.aload_n 0, 1) := by decide +kernel
theorem dX5_renew_25 : decode cX5_renew 25 = .ok (.getfield 18, 3) := by decide +kernel
theorem dX5_renew_28 : decode cX5_renew 28 = .ok (.iload_n 1, 1) := by decide +kernel
theorem dX5_renew_29 : decode cX5_renew 29 = .ok (.bipush 40, 2) := by decide +kernel
theorem dX5_renew_31 : decode cX5_renew 31 = .ok (.imul, 1) := by decide +kernel
theorem dX5_renew_32 : decode cX5_renew 32 = .ok (.iload 4, 2) := by decide +kernel
theorem dX5_renew_34 : decode cX5_renew 34 = .ok (.iadd, 1) := by decide +kernel
theorem dX5_renew_35 : decode cX5_renew 35 = .ok (.iconst 0, 1) := by decide +kernel
theorem dX5_renew_36 : decode cX5_renew 36 = .ok (.iastore, 1) := by decide +kernel
theorem dX5_renew_37 : decode cX5_renew 37 = .ok (.iinc 4 1, 3) := by decide +kernel
theorem dX5_renew_40 : decode cX5_renew 40 = .ok (.goto (-23), 3) := by decide +kernel
theorem dX5_renew_43 : decode cX5_renew 43 = .ok (.return_, 1) := by decide +kernel
theorem dX5_hasPlace_0 : decode cX5_hasPlace 0 = .ok (.iload_n 2, 1) := by decide +kernel
theorem dX5_hasPlace_1 : decode cX5_hasPlace 1 = .ok (.iconst 0, 1) := by decide +kernel
theorem dX5_hasPlace_2 : decode cX5_hasPlace 2 = .ok (.aload_n 0, 1) := by decide +kernel
theorem dX5_hasPlace_3 : decode cX5_hasPlace 3 = .ok (.getfield 15, 3) := by decide +kernel
theorem dX5_hasPlace_6 : decode cX5_hasPlace 6 = .ok (.iload_n 1, 1) := by decide +kernel
theorem dX5_hasPlace_7 : decode cX5_hasPlace 7 = .ok (.iaload, 1) := by decide +kernel
theorem dX5_hasPlace_8 : decode cX5_hasPlace 8 = .ok (.iconst 1, 1) := by decide +kernel
theorem dX5_hasPlace_9 : decode cX5_hasPlace 9 = .ok (.isub, 1) := by decide +kernel
theorem dX5_hasPlace_10 : decode cX5_hasPlace 10 = .ok (.invokestatic 21, 3) := by decide +kernel
theorem dX5_hasPlace_13 : decode cX5_hasPlace 13 = .ok (.ireturn, 1) := by decide +kernel
theorem dX5_hasRun_0 : decode cX5_hasRun 0 = .ok (.iload_n 3, 1) := by decide +kernel
theorem dX5_hasRun_1 : decode cX5_hasRun 1 = .ok (.ifCond .lt 33, 3) := by decide +kernel
theorem dX5_hasRun_4 : decode cX5_hasRun 4 = .ok (.iload_n 2, 1) := by decide +kernel
theorem dX5_hasRun_5 : decode cX5_hasRun 5 = .ok (.ifCond .lt 29, 3) := by decide +kernel
theorem dX5_hasRun_8 : decode cX5_hasRun 8 = .ok (.iload_n 2, 1) := by decide +kernel
theorem dX5_hasRun_9 : decode cX5_hasRun 9 = .ok (.aload_n 0, 1) := by decide +kernel
theorem dX5_hasRun_10 : decode cX5_hasRun 10 = .ok (.getfield 15, 3) := by decide +kernel
theorem dX5_hasRun_13 : decode cX5_hasRun 13 = .ok (.iload_n 1, 1) := by decide +kernel
theorem dX5_hasRun_14 : decode cX5_hasRun 14 = .ok (.iaload, 1) := by decide +kernel
theorem dX5_hasRun_15 : decode cX5_hasRun 15 = .ok (.if_icmp .gt 19, 3) := by decide +kernel
theorem dX5_hasRun_18 : decode cX5_hasRun 18 = .ok (.iload_n 3, 1) := by decide +kernel
theorem dX5_hasRun_19 : decode cX5_hasRun 19 = .ok (.aload_n 0, 1) := by decide +kernel
theorem dX5_hasRun_20 : decode cX5_hasRun 20 = .ok (.getfield 15, 3) := by decide +kernel
theorem dX5_hasRun_23 : decode cX5_hasRun 23 = .ok (.iload_n 1, 1) := by decide +kernel
theorem dX5_hasRun_24 : decode cX5_hasRun 24 = .ok (.iaload, 1) := by decide +kernel
theorem dX5_hasRun_25 : decode cX5_hasRun 25 = .ok (.iload_n 2, 1) := by decide +kernel
theorem dX5_hasRun_26 : decode cX5_hasRun 26 = .ok (.isub, 1) := by decide +kernel
theorem dX5_hasRun_27 : decode cX5_hasRun 27 = .ok (.if_icmp .gt 7, 3) := by decide +kernel
theorem dX5_hasRun_30 : decode cX5_hasRun 30 = .ok (.iconst 1, 1) := by decide +kernel
theorem dX5_hasRun_31 : decode cX5_hasRun 31 = .ok (.goto 4, 3) := by decide +kernel
theorem dX5_hasRun_34 : decode cX5_hasRun 34 = .ok (.iconst 0, 1) := by decide +kernel
theorem dX5_hasRun_35 : decode cX5_hasRun 35 = .ok (.ireturn, 1) := by decide +kernel
theorem dX5_number_0 : decode cX5_number 0 = .ok (.aload_n 0, 1) := by decide +kernel
theorem dX5_number_1 : decode cX5_number 1 = .ok (.iload_n 1, 1) := by decide +kernel
theorem dX5_number_2 : decode cX5_number 2 = .ok (.iload_n 2, 1) := by decide +kernel
theorem dX5_number_3 : decode cX5_number 3 = .ok (.invokevirtual 25, 3) := by decide +kernel
theorem dX5_number_6 : decode cX5_number 6 = .ok (.ifCond .eq 17, 3) := by decide +kernel
theorem dX5_number_9 : decode cX5_number 9 = .ok (.aload_n 0, 1) := by decide +kernel
theorem dX5_number_10 : decode cX5_number 10 = .ok (.getfield 18, 3) := by decide +kernel
theorem dX5_number_13 : decode cX5_number 13 = .ok (.iload_n 1, 1) := by decide +kernel
theorem dX5_number_14 : decode cX5_number 14 = .ok (.bipush 40, 2) := by decide +kernel
theorem dX5_number_16 : decode cX5_number 16 = .ok (.imul, 1) := by decide +kernel
theorem dX5_number_17 : decode cX5_number 17 = .ok (.iload_n 2, 1) := by decide +kernel
theorem dX5_number_18 : decode cX5_number 18 = .ok (.iadd, 1) := by decide +kernel
theorem dX5_number_19 : decode cX5_number 19 = .ok (.iaload, 1) := by decide +kernel
theorem dX5_number_20 : decode cX5_number 20 = .ok (.goto 4, 3) := by decide +kernel
theorem dX5_number_23 : decode cX5_number 23 = .ok (.iconst 0, 1) := by decide +kernel
theorem dX5_number_24 : decode cX5_number 24 = .ok (.ireturn, 1) := by decide +kernel
theorem dX5_write_0 : decode cX5_write 0 = .ok (.aload_n 0, 1) := by decide +kernel
theorem dX5_write_1 : decode cX5_write 1 = .ok (.iload_n 1, 1) := by decide +kernel
theorem dX5_write_2 : decode cX5_write 2 = .ok (.iload_n 2, 1) := by decide +kernel
theorem dX5_write_3 : decode cX5_write 3 = .ok (.invokevirtual 25, 3) := by decide +kernel
theorem dX5_write_6 : decode cX5_write 6 = .ok (.ifCond .eq 44, 3) := by decide +kernel
theorem dX5_write_9 : decode cX5_write 9 = .ok (.aload_n 0, 1) := by decide +kernel
theorem dX5_write_10 : decode cX5_write 10 = .ok (.getfield 18, 3) := by decide +kernel
theorem dX5_write_13 : decode cX5_write 13 = .ok (.iload_n 1, 1) := by decide +kernel
theorem dX5_write_14 : decode cX5_write 14 = .ok (.bipush 40, 2) := by decide +kernel
theorem dX5_write_16 : decode cX5_write 16 = .ok (.imul, 1) := by decide +kernel
theorem dX5_write_17 : decode cX5_write 17 = .ok (.iload_n 2, 1) := by decide +kernel
theorem dX5_write_18 : decode cX5_write 18 = .ok (.iadd, 1) := by decide +kernel
theorem dX5_write_19 : decode cX5_write 19 = .ok (.aload_n 0, 1) := by decide +kernel
theorem dX5_write_20 : decode cX5_write 20 = .ok (.getfield 11, 3) := by decide +kernel
theorem dX5_write_23 : decode cX5_write 23 = .ok (.iload_n 1, 1) := by decide +kernel
theorem dX5_write_24 : decode cX5_write 24 = .ok (.iaload, 1) := by decide +kernel
theorem dX5_write_25 : decode cX5_write 25 = .ok (.ifCond .ne 8, 3) := by decide +kernel
theorem dX5_write_28 : decode cX5_write 28 = .ok (.iload_n 3, 1) := by decide +kernel
theorem dX5_write_29 : decode cX5_write 29 = .ok (.i2b, 1) := by decide +kernel
theorem dX5_write_30 : decode cX5_write 30 = .ok (.goto 19, 3) := by decide +kernel
theorem dX5_write_33 : decode cX5_write 33 = .ok (.aload_n 0, 1) := by decide +kernel
theorem dX5_write_34 : decode cX5_write 34 = .ok (.getfield 11, 3) := by decide +kernel
theorem dX5_write_37 : decode cX5_write 37 = .ok (.iload_n 1, 1) := by decide +kernel
theorem dX5_write_38 : decode cX5_write 38 = .ok (.iaload, 1) := by decide +kernel
theorem dX5_write_39 : decode cX5_write 39 = .ok (.iconst 1, 1) := by decide +kernel
theorem dX5_write_40 : decode cX5_write 40 = .ok (.if_icmp .ne 8, 3) := by decide +kernel
theorem dX5_write_43 : decode cX5_write 43 = .ok (.iload_n 3, 1) := by decide +kernel
theorem dX5_write_44 : decode cX5_write 44 = .ok (.i2s, 1) := by decide +kernel
theorem dX5_write_45 : decode cX5_write 45 = .ok (.goto 4, 3) := by decide +kernel
theorem dX5_write_48 : decode cX5_write 48 = .ok (.iload_n 3, 1) := by decide +kernel
theorem dX5_write_49 : decode cX5_write 49 = .ok (.iastore, 1) := by decide +kernel
theorem dX5_write_50 : decode cX5_write 50 = .ok (.return_, 1) := by decide +kernel
theorem dX5_move_0 : decode cX5_move 0 = .ok (.aload_n 0, 1) := by decide +kernel
theorem dX5_move_1 : decode cX5_move 1 = .ok (.getfield 18, 3) := by decide +kernel
theorem dX5_move_4 : decode cX5_move 4 = .ok (.iload_n 1, 1) := by decide +kernel
theorem dX5_move_5 : decode cX5_move 5 = .ok (.bipush 40, 2) := by decide +kernel
theorem dX5_move_7 : decode cX5_move 7 = .ok (.imul, 1) := by decide +kernel
theorem dX5_move_8 : decode cX5_move 8 = .ok (.iload_n 2, 1) := by decide +kernel
theorem dX5_move_9 : decode cX5_move 9 = .ok (.iadd, 1) := by decide +kernel
theorem dX5_move_10 : decode cX5_move 10 = .ok (.aload_n 0, 1) := by decide +kernel
theorem dX5_move_11 : decode cX5_move 11 = .ok (.getfield 18, 3) := by decide +kernel
theorem dX5_move_14 : decode cX5_move 14 = .ok (.iload_n 3, 1) := by decide +kernel
theorem dX5_move_15 : decode cX5_move 15 = .ok (.bipush 40, 2) := by decide +kernel
theorem dX5_move_17 : decode cX5_move 17 = .ok (.imul, 1) := by decide +kernel
theorem dX5_move_18 : decode cX5_move 18 = .ok (.iload 4, 2) := by decide +kernel
theorem dX5_move_20 : decode cX5_move 20 = .ok (.iadd, 1) := by decide +kernel
theorem dX5_move_21 : decode cX5_move 21 = .ok (.iload 5, 2) := by decide +kernel
theorem dX5_move_23 : decode cX5_move 23 = .ok (.invokestatic 29, 3) := by decide +kernel
theorem dX5_move_26 : decode cX5_move 26 = .ok (.return_, 1) := by decide +kernel
theorem dX6_init_0 : decode cX6_init 0 = .ok (.aload_n 0, 1) := by decide +kernel
theorem dX6_init_1 : decode cX6_init 1 = .ok (.invokespecial 3, 3) := by decide +kernel
theorem dX6_init_4 : decode cX6_init 4 = .ok (.aload_n 0, 1) := by decide +kernel
theorem dX6_init_5 : decode cX6_init 5 = .ok (.iconst 0, 1) := by decide +kernel
theorem dX6_init_6 : decode cX6_init 6 = .ok (.putfield 9, 3) := by decide +kernel
theorem dX6_init_9 : decode cX6_init 9 = .ok (.aload_n 0, 1) := by decide +kernel
theorem dX6_init_10 : decode cX6_init 10 = .ok (.iconst 5, 1) := by decide +kernel
theorem dX6_init_11 : decode cX6_init 11 = .ok (.newarray .int, 2) := by decide +kernel
theorem dX6_init_13 : decode cX6_init 13 = .ok (.putfield 15, 3) := by decide +kernel
theorem dX6_init_16 : decode cX6_init 16 = .ok (.aload_n 0, 1) := by decide +kernel
theorem dX6_init_17 : decode cX6_init 17 = .ok (.iconst 5, 1) := by decide +kernel
theorem dX6_init_18 : decode cX6_init 18 = .ok (.newarray .int, 2) := by decide +kernel
theorem dX6_init_20 : decode cX6_init 20 = .ok (.putfield 19, 3) := by decide +kernel
theorem dX6_init_23 : decode cX6_init 23 = .ok (.aload_n 0, 1) := by decide +kernel
theorem dX6_init_24 : decode cX6_init 24 = .ok (.iconst 5, 1) := by decide +kernel
theorem dX6_init_25 : decode cX6_init 25 = .ok (.newarray .int, 2) := by decide +kernel
theorem dX6_init_27 : decode cX6_init 27 = .ok (.putfield 22, 3) := by decide +kernel
theorem dX6_init_30 : decode cX6_init 30 = .ok (.aload_n 0, 1) := by decide +kernel
theorem dX6_init_31 : decode cX6_init 31 = .ok (.iconst 0, 1) := by decide +kernel
theorem dX6_init_32 : decode cX6_init 32 = .ok (.putfield 25, 3) := by decide +kernel
theorem dX6_init_35 : decode cX6_init 35 = .ok (.aload_n 0, 1) := by decide +kernel
theorem dX6_init_36 : decode cX6_init 36 = .ok (.bipush 6, 2) := by decide +kernel
theorem dX6_init_38 : decode cX6_init 38 = .ok (.newarray .int, 2) := by decide +kernel
theorem dX6_init_40 : decode cX6_init 40 = .ok (.putfield 28, 3) := by decide +kernel
theorem dX6_init_43 : decode cX6_init 43 = .ok (.aload_n 0, 1) := by decide +kernel
theorem dX6_init_44 : decode cX6_init 44 = .ok (.bipush 6, 2) := by decide +kernel
theorem dX6_init_46 : decode cX6_init 46 = .ok (.newarray .int, 2) := by decide +kernel
theorem dX6_init_48 : decode cX6_init 48 = .ok (.putfield 31, 3) := by decide +kernel
theorem dX6_init_51 : decode cX6_init 51 = .ok (.aload_n 0, 1) := by decide +kernel
theorem dX6_init_52 : decode cX6_init 52 = .ok (.bipush 6, 2) := by decide +kernel
theorem dX6_init_54 : decode cX6_init 54 = .ok (.newarray .int, 2) := by decide +kernel
theorem dX6_init_56 : decode cX6_init 56 = .ok (.putfield 34, 3) := by decide +kernel
theorem dX6_init_59 : decode cX6_init 59 = .ok (.aload_n 0, 1) := by decide +kernel
theorem dX6_init_60 : decode cX6_init 60 = .ok (.bipush 6, 2) := by decide +kernel
theorem dX6_init_62 : decode cX6_init 62 = .ok (.newarray .int, 2) := by decide +kernel
theorem dX6_init_64 : decode cX6_init 64 = .ok (.putfield 37, 3) := by decide +kernel
theorem dX6_init_67 : decode cX6_init 67 = .ok (.aload_n 0, 1) := by decide +kernel
theorem dX6_init_68 : decode cX6_init 68 = .ok (.bipush 6, 2) := by decide +kernel
theorem dX6_init_70 : decode cX6_init 70 = .ok (.newarray .int, 2) := by decide +kernel
theorem dX6_init_72 : decode cX6_init 72 = .ok (.putfield 40, 3) := by decide +kernel
theorem dX6_init_75 : decode cX6_init 75 = .ok (.aload_n 0, 1) := by decide +kernel
theorem dX6_init_76 : decode cX6_init 76 = .ok (.bipush 16, 2) := by decide +kernel
theorem dX6_init_78 : decode cX6_init 78 = .ok (.newarray .int, 2) := by decide +kernel
theorem dX6_init_80 : decode cX6_init 80 = .ok (.putfield 43, 3) := by decide +kernel
theorem dX6_init_83 : decode cX6_init 83 = .ok (.aload_n 0, 1) := by decide +kernel
theorem dX6_init_84 : decode cX6_init 84 = .ok (.iconst 0, 1) := by decide +kernel
theorem dX6_init_85 : decode cX6_init 85 = .ok (.putfield 46, 3) := by decide +kernel
theorem dX6_init_88 : decode cX6_init 88 = .ok (.aload_n 0, 1) := by decide +kernel
theorem dX6_init_89 : decode cX6_init 89 = .ok (.iconst 0, 1) := by decide +kernel
theorem dX6_init_90 : decode cX6_init 90 = .ok (.putfield 49, 3) := by decide +kernel
theorem dX6_init_93 : decode cX6_init 93 = .ok (.aload_n 0, 1) := by decide +kernel
theorem dX6_init_94 : decode cX6_init 94 = .ok (.aload_n 1, 1) := by decide +kernel
theorem dX6_init_95 : decode cX6_init 95 = .ok (.putfield 52, 3) := by decide +kernel
theorem dX6_init_98 : decode cX6_init 98 = .ok (.iconst 0, 1) := by decide +kernel
theorem dX6_init_99 : decode cX6_init 99 = .ok (.istore_n 2, 1) := by decide +kernel
theorem dX6_init_100 : decode cX6_init 100 = .ok (.iload_n 2, 1) := by decide +kernel
theorem dX6_init_101 : decode cX6_init 101 = .ok (.bipush 16, 2) := by decide +kernel
theorem dX6_init_103 : decode cX6_init 103 = .ok (.if_icmp .ge 17, 3) := by decide +kernel
theorem dX6_init_106 : decode cX6_init 106 = .ok (.aload_n 0, 1) := by decide +kernel
theorem dX6_init_107 : decode cX6_init 107 = .ok (.getfield 43, 3) := by decide +kernel
theorem dX6_init_110 : decode cX6_init 110 = .ok (.iload_n 2, 1) := by decide +kernel
theorem dX6_init_111 : decode cX6_init 111 = .ok (.bipush 100, 2) := by decide +kernel
theorem dX6_init_113 : decode cX6_init 113 = .ok (.iastore, 1) := by decide +kernel
theorem dX6_init_114 : decode cX6_init 114 = .ok (.iinc 2 1, 3) := by decide +kernel
theorem dX6_init_117 : decode cX6_init 117 = .ok (.goto (-17), 3) := by decide +kernel
theorem dX6_init_120 : decode cX6_init 120 = .ok (.return_, 1) := by decide +kernel
theorem dX6_copyFrom_0 : decode cX6_copyFrom 0 = .ok (.aload_n 0, 1) := by decide +kernel
theorem dX6_copyFrom_1 : decode cX6_copyFrom 1 = .ok (.aload_n 1, 1) := by decide +kernel
theorem dX6_copyFrom_2 : decode cX6_copyFrom 2 = .ok (.getfield 9, 3) := by decide +kernel
theorem dX6_copyFrom_5 : decode cX6_copyFrom 5 = .ok (.putfield 9, 3) := by decide +kernel
theorem dX6_copyFrom_8 : decode cX6_copyFrom 8 = .ok (.aload_n 0, 1) := by decide +kernel
theorem dX6_copyFrom_9 : decode cX6_copyFrom 9 = .ok (.aload_n 1, 1) := by decide +kernel
theorem dX6_copyFrom_10 : decode cX6_copyFrom 10 = .ok (.getfield 25, 3) := by decide +kernel
theorem dX6_copyFrom_13 : decode cX6_copyFrom 13 = .ok (.putfield 25, 3) := by decide +kernel
theorem dX6_copyFrom_16 : decode cX6_copyFrom 16 = .ok (.aload_n 0, 1) := by decide +kernel
theorem dX6_copyFrom_17 : decode cX6_copyFrom 17 = .ok (.aload_n 1, 1) := by decide +kernel
theorem dX6_copyFrom_18 : decode cX6_copyFrom 18 = .ok (.getfield 46, 3) := by decide +kernel
theorem dX6_copyFrom_21 : decode cX6_copyFrom 21 = .ok (.putfield 46, 3) := by decide +kernel
theorem dX6_copyFrom_24 : decode cX6_copyFrom 24 = .ok (.aload_n 0, 1) := by decide +kernel
theorem dX6_copyFrom_25 : decode cX6_copyFrom 25 = .ok (.aload_n 1, 1) := by decide +kernel
theorem dX6_copyFrom_26 : decode cX6_copyFrom 26 = .ok (.getfield 49, 3) := by decide +kernel
theorem dX6_copyFrom_29 : decode cX6_copyFrom 29 = .ok (.putfield 49, 3) := by decide +kernel
theorem dX6_copyFrom_32 : decode cX6_copyFrom 32 = .ok (.iconst 0, 1) := by decide +kernel
theorem dX6_copyFrom_33 : decode cX6_copyFrom 33 = .ok (.istore_n 2, 1) := by decide +kernel
theorem dX6_copyFrom_34 : decode cX6_copyFrom 34 = .ok (.iload_n 2, 1) := by decide +kernel
theorem dX6_copyFrom_35 : decode cX6_copyFrom 35 = .ok (.iconst 5, 1) := by decide +kernel
theorem dX6_copyFrom_36 : decode cX6_copyFrom 36 = .ok (.if_icmp .ge 45, 3) := by decide +kernel
theorem dX6_copyFrom_39 : decode cX6_copyFrom 39 = .ok (.aload_n 0, 1) := by decide +kernel
theorem dX6_copyFrom_40 : decode cX6_copyFrom 40 = .ok (.getfield 15, 3) := by decide +kernel
theorem dX6_copyFrom_43 : decode cX6_copyFrom 43 = .ok (.iload_n 2, 1) := by decide +kernel
theorem dX6_copyFrom_44 : decode cX6_copyFrom 44 = .ok (.aload_n 1, 1) := by decide +kernel
theorem dX6_copyFrom_45 : decode cX6_copyFrom 45 = .ok (.getfield 15, 3) := by decide +kernel
theorem dX6_copyFrom_48 : decode cX6_copyFrom 48 = .ok (.iload_n 2, 1) := by decide +kernel
theorem dX6_copyFrom_49 : decode cX6_copyFrom 49 = .ok (.iaload, 1) := by decide +kernel
theorem dX6_copyFrom_50 : decode cX6_copyFrom 50 = .ok (.iastore, 1) := by decide +kernel
theorem dX6_copyFrom_51 : decode cX6_copyFrom 51 = .ok (.aload_n 0, 1) := by decide +kernel
theorem dX6_copyFrom_52 : decode cX6_copyFrom 52 = .ok (.getfield 19, 3) := by decide +kernel
theorem dX6_copyFrom_55 : decode cX6_copyFrom 55 = .ok (.iload_n 2, 1) := by decide +kernel
theorem dX6_copyFrom_56 : decode cX6_copyFrom 56 = .ok (.aload_n 1, 1) := by decide +kernel
theorem dX6_copyFrom_57 : decode cX6_copyFrom 57 = .ok (.getfield 19, 3) := by decide +kernel
theorem dX6_copyFrom_60 : decode cX6_copyFrom 60 = .ok (.iload_n 2, 1) := by decide +kernel
theorem dX6_copyFrom_61 : decode cX6_copyFrom 61 = .ok (.iaload, 1) := by decide +kernel
theorem dX6_copyFrom_62 : decode cX6_copyFrom 62 = .ok (.iastore, 1) := by decide +kernel
theorem dX6_copyFrom_63 : decode cX6_copyFrom 63 = .ok (.aload_n 0, 1) := by decide +kernel
theorem dX6_copyFrom_64 : decode cX6_copyFrom 64 = .ok (.getfield 22, 3) := by decide +kernel
theorem dX6_copyFrom_67 : decode cX6_copyFrom 67 = .ok (.iload_n 2, 1) := by decide +kernel
theorem dX6_copyFrom_68 : decode cX6_copyFrom 68 = .ok (.aload_n 1, 1) := by decide +kernel
theorem dX6_copyFrom_69 : decode cX6_copyFrom 69 = .ok (.getfield 22, 3) := by decide +kernel
theorem dX6_copyFrom_72 : decode cX6_copyFrom 72 = .ok (.iload_n 2, 1) := by decide +kernel
theorem dX6_copyFrom_73 : decode cX6_copyFrom 73 = .ok (.iaload, 1) := by decide +kernel
theorem dX6_copyFrom_74 : decode cX6_copyFrom 74 = .ok (.iastore, 1) := by decide +kernel
theorem dX6_copyFrom_75 : decode cX6_copyFrom 75 = .ok (.iinc 2 1, 3) := by decide +kernel
theorem dX6_copyFrom_78 : decode cX6_copyFrom 78 = .ok (.goto (-44), 3) := by decide +kernel
theorem dX6_copyFrom_81 : decode cX6_copyFrom 81 = .ok (.iconst 0, 1) := by decide +kernel
theorem dX6_copyFrom_82 : decode cX6_copyFrom 82 = .ok (.istore_n 2, 1) := by decide +kernel
theorem dX6_copyFrom_83 : decode cX6_copyFrom 83 = .ok (.iload_n 2, 1) := by decide +kernel
theorem dX6_copyFrom_84 : decode cX6_copyFrom 84 = .ok (.bipush 6, 2) := by decide +kernel
theorem dX6_copyFrom_86 : decode cX6_copyFrom 86 = .ok (.if_icmp .ge 69, 3) := by decide +kernel
theorem dX6_copyFrom_89 : decode cX6_copyFrom 89 = .ok (.aload_n 0, 1) := by decide +kernel
theorem dX6_copyFrom_90 : decode cX6_copyFrom 90 = .ok (.getfield 28, 3) := by decide +kernel
theorem dX6_copyFrom_93 : decode cX6_copyFrom 93 = .ok (.iload_n 2, 1) := by decide +kernel
theorem dX6_copyFrom_94 : decode cX6_copyFrom 94 = .ok (.aload_n 1, 1) := by decide +kernel
theorem dX6_copyFrom_95 : decode cX6_copyFrom 95 = .ok (.getfield 28, 3) := by decide +kernel
theorem dX6_copyFrom_98 : decode cX6_copyFrom 98 = .ok (.iload_n 2, 1) := by decide +kernel
theorem dX6_copyFrom_99 : decode cX6_copyFrom 99 = .ok (.iaload, 1) := by decide +kernel
theorem dX6_copyFrom_100 : decode cX6_copyFrom 100 = .ok (.iastore, 1) := by decide +kernel
theorem dX6_copyFrom_101 : decode cX6_copyFrom 101 = .ok (.aload_n 0, 1) := by decide +kernel
theorem dX6_copyFrom_102 : decode cX6_copyFrom 102 = .ok (.getfield 31, 3) := by decide +kernel
theorem dX6_copyFrom_105 : decode cX6_copyFrom 105 = .ok (.iload_n 2, 1) := by decide +kernel
theorem dX6_copyFrom_106 : decode cX6_copyFrom 106 = .ok (.aload_n 1, 1) := by decide +kernel
theorem dX6_copyFrom_107 : decode cX6_copyFrom 107 = .ok (.getfield 31, 3) := by decide +kernel
theorem dX6_copyFrom_110 : decode cX6_copyFrom 110 = .ok (.iload_n 2, 1) := by decide +kernel
theorem dX6_copyFrom_111 : decode cX6_copyFrom 111 = .ok (.iaload, 1) := by decide +kernel
theorem dX6_copyFrom_112 : decode cX6_copyFrom 112 = .ok (.iastore, 1) := by decide +kernel
theorem dX6_copyFrom_113 : decode cX6_copyFrom 113 = .ok (.aload_n 0, 1) := by decide +kernel
theorem dX6_copyFrom_114 : decode cX6_copyFrom 114 = .ok (.getfield 34, 3) := by decide +kernel
theorem dX6_copyFrom_117 : decode cX6_copyFrom 117 = .ok (.iload_n 2, 1) := by decide +kernel
theorem dX6_copyFrom_118 : decode cX6_copyFrom 118 = .ok (.aload_n 1, 1) := by decide +kernel
theorem dX6_copyFrom_119 : decode cX6_copyFrom 119 = .ok (.getfield 34, 3) := by decide +kernel
theorem dX6_copyFrom_122 : decode cX6_copyFrom 122 = .ok (.iload_n 2, 1) := by decide +kernel
theorem dX6_copyFrom_123 : decode cX6_copyFrom 123 = .ok (.iaload, 1) := by decide +kernel
theorem dX6_copyFrom_124 : decode cX6_copyFrom 124 = .ok (.iastore, 1) := by decide +kernel
theorem dX6_copyFrom_125 : decode cX6_copyFrom 125 = .ok (.aload_n 0, 1) := by decide +kernel
theorem dX6_copyFrom_126 : decode cX6_copyFrom 126 = .ok (.getfield 37, 3) := by decide +kernel
theorem dX6_copyFrom_129 : decode cX6_copyFrom 129 = .ok (.iload_n 2, 1) := by decide +kernel
theorem dX6_copyFrom_130 : decode cX6_copyFrom 130 = .ok (.aload_n 1, 1) := by decide +kernel
theorem dX6_copyFrom_131 : decode cX6_copyFrom 131 = .ok (.getfield 37, 3) := by decide +kernel
theorem dX6_copyFrom_134 : decode cX6_copyFrom 134 = .ok (.iload_n 2, 1) := by decide +kernel
theorem dX6_copyFrom_135 : decode cX6_copyFrom 135 = .ok (.iaload, 1) := by decide +kernel
theorem dX6_copyFrom_136 : decode cX6_copyFrom 136 = .ok (.iastore, 1) := by decide +kernel
theorem dX6_copyFrom_137 : decode cX6_copyFrom 137 = .ok (.aload_n 0, 1) := by decide +kernel
theorem dX6_copyFrom_138 : decode cX6_copyFrom 138 = .ok (.getfield 40, 3) := by decide +kernel
theorem dX6_copyFrom_141 : decode cX6_copyFrom 141 = .ok (.iload_n 2, 1) := by decide +kernel
theorem dX6_copyFrom_142 : decode cX6_copyFrom 142 = .ok (.aload_n 1, 1) := by decide +kernel
theorem dX6_copyFrom_143 : decode cX6_copyFrom 143 = .ok (.getfield 40, 3) := by decide +kernel
theorem dX6_copyFrom_146 : decode cX6_copyFrom 146 = .ok (.iload_n 2, 1) := by decide +kernel
theorem dX6_copyFrom_147 : decode cX6_copyFrom 147 = .ok (.iaload, 1) := by decide +kernel
theorem dX6_copyFrom_148 : decode cX6_copyFrom 148 = .ok (.iastore, 1) := by decide +kernel
theorem dX6_copyFrom_149 : decode cX6_copyFrom 149 = .ok (.iinc 2 1, 3) := by decide +kernel
theorem dX6_copyFrom_152 : decode cX6_copyFrom 152 = .ok (.goto (-69), 3) := by decide +kernel
theorem dX6_copyFrom_155 : decode cX6_copyFrom 155 = .ok (.iconst 0, 1) := by decide +kernel
theorem dX6_copyFrom_156 : decode cX6_copyFrom 156 = .ok (.istore_n 2, 1) := by decide +kernel
theorem dX6_copyFrom_157 : decode cX6_copyFrom 157 = .ok (.iload_n 2, 1) := by decide +kernel
theorem dX6_copyFrom_158 : decode cX6_copyFrom 158 = .ok (.bipush 16, 2) := by decide +kernel
theorem dX6_copyFrom_160 : decode cX6_copyFrom 160 = .ok (.if_icmp .ge 21, 3) := by decide +kernel
theorem dX6_copyFrom_163 : decode cX6_copyFrom 163 = .ok (.aload_n 0, 1) := by decide +kernel
theorem dX6_copyFrom_164 : decode cX6_copyFrom 164 = .ok (.getfield 43, 3) := by decide +kernel
theorem dX6_copyFrom_167 : decode cX6_copyFrom 167 = .ok (.iload_n 2, 1) := by decide +kernel
theorem dX6_copyFrom_168 : decode cX6_copyFrom 168 = .ok (.aload_n 1, 1) := by decide +kernel
theorem dX6_copyFrom_169 : decode cX6_copyFrom 169 = .ok (.getfield 43, 3) := by decide +kernel
theorem dX6_copyFrom_172 : decode cX6_copyFrom 172 = .ok (.iload_n 2, 1) := by decide +kernel
theorem dX6_copyFrom_173 : decode cX6_copyFrom 173 = .ok (.iaload, 1) := by decide +kernel
theorem dX6_copyFrom_174 : decode cX6_copyFrom 174 = .ok (.iastore, 1) := by decide +kernel
theorem dX6_copyFrom_175 : decode cX6_copyFrom 175 = .ok (.iinc 2 1, 3) := by decide +kernel
theorem dX6_copyFrom_178 : decode cX6_copyFrom 178 = .ok (.goto (-21), 3) := by decide +kernel
theorem dX6_copyFrom_181 : decode cX6_copyFrom 181 = .ok (.return_, 1) := by decide +kernel
theorem dX6_hasJoke_0 : decode cX6_hasJoke 0 = .ok (.iload_n 1, 1) := by decide +kernel
theorem dX6_hasJoke_1 : decode cX6_hasJoke 1 = .ok (.iconst 0, 1) := by decide +kernel
theorem dX6_hasJoke_2 : decode cX6_hasJoke 2 = .ok (.aload_n 0, 1) := by decide +kernel
theorem dX6_hasJoke_3 : decode cX6_hasJoke 3 = .ok (.getfield 9, 3) := by decide +kernel
theorem dX6_hasJoke_6 : decode cX6_hasJoke 6 = .ok (.iconst 1, 1) := by decide +kernel
theorem dX6_hasJoke_7 : decode cX6_hasJoke 7 = .ok (.isub, 1) := by decide +kernel
theorem dX6_hasJoke_8 : decode cX6_hasJoke 8 = .ok (.invokestatic 56, 3) := by decide +kernel
theorem dX6_hasJoke_11 : decode cX6_hasJoke 11 = .ok (.ireturn, 1) := by decide +kernel
theorem dX6_hasHearer_0 : decode cX6_hasHearer 0 = .ok (.iload_n 1, 1) := by decide +kernel
theorem dX6_hasHearer_1 : decode cX6_hasHearer 1 = .ok (.iconst 0, 1) := by decide +kernel
theorem dX6_hasHearer_2 : decode cX6_hasHearer 2 = .ok (.aload_n 0, 1) := by decide +kernel
theorem dX6_hasHearer_3 : decode cX6_hasHearer 3 = .ok (.getfield 25, 3) := by decide +kernel
theorem dX6_hasHearer_6 : decode cX6_hasHearer 6 = .ok (.iconst 1, 1) := by decide +kernel
theorem dX6_hasHearer_7 : decode cX6_hasHearer 7 = .ok (.isub, 1) := by decide +kernel
theorem dX6_hasHearer_8 : decode cX6_hasHearer 8 = .ok (.invokestatic 56, 3) := by decide +kernel
theorem dX6_hasHearer_11 : decode cX6_hasHearer 11 = .ok (.ireturn, 1) := by decide +kernel
theorem dX6_canTell_0 : decode cX6_canTell 0 = .ok (.aload_n 0, 1) := by decide +kernel
theorem dX6_canTell_1 : decode cX6_canTell 1 = .ok (.getfield 9, 3) := by decide +kernel
theorem dX6_canTell_4 : decode cX6_canTell 4 = .ok (.ifCond .le 14, 3) := by decide +kernel
theorem dX6_canTell_7 : decode cX6_canTell 7 = .ok (.aload_n 0, 1) := by decide +kernel
theorem dX6_canTell_8 : decode cX6_canTell 8 = .ok (.getfield 25, 3) := by decide +kernel
theorem dX6_canTell_11 : decode cX6_canTell 11 = .ok (.ifCond .le 7, 3) := by decide +kernel
theorem dX6_canTell_14 : decode cX6_canTell 14 = .ok (.iconst 1, 1) := by decide +kernel
theorem dX6_canTell_15 : decode cX6_canTell 15 = .ok (.goto 4, 3) := by decide +kernel
theorem dX6_canTell_18 : decode cX6_canTell 18 = .ok (.iconst 0, 1) := by decide +kernel
theorem dX6_canTell_19 : decode cX6_canTell 19 = .ok (.ireturn, 1) := by decide +kernel
theorem dX6_allJokes_0 : decode cX6_allJokes 0 = .ok (.iconst 1, 1) := by decide +kernel
theorem dX6_allJokes_1 : decode cX6_allJokes 1 = .ok (.aload_n 0, 1) := by decide +kernel
theorem dX6_allJokes_2 : decode cX6_allJokes 2 = .ok (.getfield 9, 3) := by decide +kernel
theorem dX6_allJokes_5 : decode cX6_allJokes 5 = .ok (.ishl, 1) := by decide +kernel
theorem dX6_allJokes_6 : decode cX6_allJokes 6 = .ok (.iconst 1, 1) := by decide +kernel
theorem dX6_allJokes_7 : decode cX6_allJokes 7 = .ok (.isub, 1) := by decide +kernel
theorem dX6_allJokes_8 : decode cX6_allJokes 8 = .ok (.ireturn, 1) := by decide +kernel
theorem dX6_allHearers_0 : decode cX6_allHearers 0 = .ok (.iconst 1, 1) := by decide +kernel
theorem dX6_allHearers_1 : decode cX6_allHearers 1 = .ok (.aload_n 0, 1) := by decide +kernel
theorem dX6_allHearers_2 : decode cX6_allHearers 2 = .ok (.getfield 25, 3) := by decide +kernel
theorem dX6_allHearers_5 : decode cX6_allHearers 5 = .ok (.ishl, 1) := by decide +kernel
theorem dX6_allHearers_6 : decode cX6_allHearers 6 = .ok (.iconst 1, 1) := by decide +kernel
theorem dX6_allHearers_7 : decode cX6_allHearers 7 = .ok (.isub, 1) := by decide +kernel
theorem dX6_allHearers_8 : decode cX6_allHearers 8 = .ok (.ireturn, 1) := by decide +kernel
theorem dX6_areHearers_0 : decode cX6_areHearers 0 = .ok (.iload_n 1, 1) := by decide +kernel
theorem dX6_areHearers_1 : decode cX6_areHearers 1 = .ok (.iconst 0, 1) := by decide +kernel
theorem dX6_areHearers_2 : decode cX6_areHearers 2 = .ok (.aload_n 0, 1) := by decide +kernel
theorem dX6_areHearers_3 : decode cX6_areHearers 3 = .ok (.invokevirtual 60, 3) := by decide +kernel
theorem dX6_areHearers_6 : decode cX6_areHearers 6 = .ok (.invokestatic 56, 3) := by decide +kernel
theorem dX6_areHearers_9 : decode cX6_areHearers 9 = .ok (.ireturn, 1) := by decide +kernel
theorem dX6_addJoke_0 : decode cX6_addJoke 0 = .ok (.iload_n 1, 1) := by decide +kernel
theorem dX6_addJoke_1 : decode cX6_addJoke 1 = .ok (.iconst 0, 1) := by decide +kernel
theorem dX6_addJoke_2 : decode cX6_addJoke 2 = .ok (.iconst 5, 1) := by decide +kernel
theorem dX6_addJoke_3 : decode cX6_addJoke 3 = .ok (.invokestatic 56, 3) := by decide +kernel
theorem dX6_addJoke_6 : decode cX6_addJoke 6 = .ok (.ifCond .eq 13, 3) := by decide +kernel
theorem dX6_addJoke_9 : decode cX6_addJoke 9 = .ok (.iload_n 2, 1) := by decide +kernel
theorem dX6_addJoke_10 : decode cX6_addJoke 10 = .ok (.iconst 0, 1) := by decide +kernel
theorem dX6_addJoke_11 : decode cX6_addJoke 11 = .ok (.bipush 9, 2) := by decide +kernel
theorem dX6_addJoke_13 : decode cX6_addJoke 13 = .ok (.invokestatic 56, 3) := by decide +kernel
theorem dX6_addJoke_16 : decode cX6_addJoke 16 = .ok (.ifCond .ne 6, 3) := by decide +kernel
theorem dX6_addJoke_19 : decode cX6_addJoke 19 = .ok (.bipush (-2), 2) := by decide +kernel
theorem dX6_addJoke_21 : decode cX6_addJoke 21 = .ok (.ireturn, 1) := by decide +kernel
theorem dX6_addJoke_22 : decode cX6_addJoke 22 = .ok (.aload_n 0, 1) := by decide +kernel
theorem dX6_addJoke_23 : decode cX6_addJoke 23 = .ok (.getfield 9, 3) := by decide +kernel
theorem dX6_addJoke_26 : decode cX6_addJoke 26 = .ok (.iconst 5, 1) := by decide +kernel
theorem dX6_addJoke_27 : decode cX6_addJoke 27 = .ok (.if_icmp .lt 6, 3) := by decide +kernel
theorem dX6_addJoke_30 : decode cX6_addJoke 30 = .ok (.bipush (-4), 2) := by decide +kernel
theorem dX6_addJoke_32 : decode cX6_addJoke 32 = .ok (.ireturn, 1) := by decide +kernel
theorem dX6_addJoke_33 : decode cX6_addJoke 33 = .ok (.aload_n 0, 1) := by decide +kernel
theorem dX6_addJoke_34 : decode cX6_addJoke 34 = .ok (.getfield 9, 3) := by decide +kernel
theorem dX6_addJoke_37 : decode cX6_addJoke 37 = .ok (.istore_n 3, 1) := by decide +kernel
theorem dX6_addJoke_38 : decode cX6_addJoke 38 = .ok (.aload_n 0, 1) := by decide +kernel
theorem dX6_addJoke_39 : decode cX6_addJoke 39 = .ok (.getfield 15, 3) := by decide +kernel
theorem dX6_addJoke_42 : decode cX6_addJoke 42 = .ok (.iload_n 3, 1) := by decide +kernel
theorem dX6_addJoke_43 : decode cX6_addJoke 43 = .ok (.iload_n 1, 1) := by decide +kernel
theorem dX6_addJoke_44 : decode cX6_addJoke 44 = .ok (.iastore, 1) := by decide +kernel
theorem dX6_addJoke_45 : decode cX6_addJoke 45 = .ok (.aload_n 0, 1) := by decide +kernel
theorem dX6_addJoke_46 : decode cX6_addJoke 46 = .ok (.getfield 19, 3) := by decide +kernel
theorem dX6_addJoke_49 : decode cX6_addJoke 49 = .ok (.iload_n 3, 1) := by decide +kernel
theorem dX6_addJoke_50 : decode cX6_addJoke 50 = .ok (.iload_n 2, 1) := by decide +kernel
theorem dX6_addJoke_51 : decode cX6_addJoke 51 = .ok (.iastore, 1) := by decide +kernel
theorem dX6_addJoke_52 : decode cX6_addJoke 52 = .ok (.aload_n 0, 1) := by decide +kernel
theorem dX6_addJoke_53 : decode cX6_addJoke 53 = .ok (.getfield 22, 3) := by decide +kernel
theorem dX6_addJoke_56 : decode cX6_addJoke 56 = .ok (.iload_n 3, 1) := by decide +kernel
theorem dX6_addJoke_57 : decode cX6_addJoke 57 = .ok (.iconst 0, 1) := by decide +kernel
theorem dX6_addJoke_58 : decode cX6_addJoke 58 = .ok (.iastore, 1) := by decide +kernel
theorem dX6_addJoke_59 : decode cX6_addJoke 59 = .ok (.aload_n 0, 1) := by decide +kernel
theorem dX6_addJoke_60 : decode cX6_addJoke 60 = .ok (.dup, 1) := by decide +kernel
theorem dX6_addJoke_61 : decode cX6_addJoke 61 = .ok (.getfield 9, 3) := by decide +kernel
theorem dX6_addJoke_64 : decode cX6_addJoke 64 = .ok (.iconst 1, 1) := by decide +kernel
theorem dX6_addJoke_65 : decode cX6_addJoke 65 = .ok (.iadd, 1) := by decide +kernel
theorem dX6_addJoke_66 : decode cX6_addJoke 66 = .ok (.putfield 9, 3) := by decide +kernel
theorem dX6_addJoke_69 : decode cX6_addJoke 69 = .ok (.iload_n 3, 1) := by decide +kernel
theorem dX6_addJoke_70 : decode cX6_addJoke 70 = .ok (.ireturn, 1) := by decide +kernel
theorem dX6_addHearer_0 : decode cX6_addHearer 0 = .ok (.aload_n 0, 1) := by decide +kernel
theorem dX6_addHearer_1 : decode cX6_addHearer 1 = .ok (.getfield 25, 3) := by decide +kernel
theorem dX6_addHearer_4 : decode cX6_addHearer 4 = .ok (.istore_n 3, 1) := by decide +kernel
theorem dX6_addHearer_5 : decode cX6_addHearer 5 = .ok (.aload_n 0, 1) := by decide +kernel
theorem dX6_addHearer_6 : decode cX6_addHearer 6 = .ok (.getfield 28, 3) := by decide +kernel
theorem dX6_addHearer_9 : decode cX6_addHearer 9 = .ok (.iload_n 3, 1) := by decide +kernel
theorem dX6_addHearer_10 : decode cX6_addHearer 10 = .ok (.iload_n 1, 1) := by decide +kernel
theorem dX6_addHearer_11 : decode cX6_addHearer 11 = .ok (.iastore, 1) := by decide +kernel
theorem dX6_addHearer_12 : decode cX6_addHearer 12 = .ok (.aload_n 0, 1) := by decide +kernel
theorem dX6_addHearer_13 : decode cX6_addHearer 13 = .ok (.getfield 31, 3) := by decide +kernel
theorem dX6_addHearer_16 : decode cX6_addHearer 16 = .ok (.iload_n 3, 1) := by decide +kernel
theorem dX6_addHearer_17 : decode cX6_addHearer 17 = .ok (.iconst 0, 1) := by decide +kernel
theorem dX6_addHearer_18 : decode cX6_addHearer 18 = .ok (.iastore, 1) := by decide +kernel
theorem dX6_addHearer_19 : decode cX6_addHearer 19 = .ok (.aload_n 0, 1) := by decide +kernel
theorem dX6_addHearer_20 : decode cX6_addHearer 20 = .ok (.getfield 34, 3) := by decide +kernel
theorem dX6_addHearer_23 : decode cX6_addHearer 23 = .ok (.iload_n 3, 1) := by decide +kernel
theorem dX6_addHearer_24 : decode cX6_addHearer 24 = .ok (.iconst 0, 1) := by decide +kernel
theorem dX6_addHearer_25 : decode cX6_addHearer 25 = .ok (.iastore, 1) := by decide +kernel
theorem dX6_addHearer_26 : decode cX6_addHearer 26 = .ok (.aload_n 0, 1) := by decide +kernel
theorem dX6_addHearer_27 : decode cX6_addHearer 27 = .ok (.getfield 37, 3) := by decide +kernel
theorem dX6_addHearer_30 : decode cX6_addHearer 30 = .ok (.iload_n 3, 1) := by decide +kernel
theorem dX6_addHearer_31 : decode cX6_addHearer 31 = .ok (.iconst 0, 1) := by decide +kernel
theorem dX6_addHearer_32 : decode cX6_addHearer 32 = .ok (.iastore, 1) := by decide +kernel
theorem dX6_addHearer_33 : decode cX6_addHearer 33 = .ok (.aload_n 0, 1) := by decide +kernel
theorem dX6_addHearer_34 : decode cX6_addHearer 34 = .ok (.getfield 40, 3) := by decide +kernel
theorem dX6_addHearer_37 : decode cX6_addHearer 37 = .ok (.iload_n 3, 1) := by decide +kernel
theorem dX6_addHearer_38 : decode cX6_addHearer 38 = .ok (.iload_n 2, 1) := by decide +kernel
theorem dX6_addHearer_39 : decode cX6_addHearer 39 = .ok (.iastore, 1) := by decide +kernel
theorem dX6_addHearer_40 : decode cX6_addHearer 40 = .ok (.aload_n 0, 1) := by decide +kernel
theorem dX6_addHearer_41 : decode cX6_addHearer 41 = .ok (.dup, 1) := by decide +kernel
theorem dX6_addHearer_42 : decode cX6_addHearer 42 = .ok (.getfield 25, 3) := by decide +kernel
theorem dX6_addHearer_45 : decode cX6_addHearer 45 = .ok (.iconst 1, 1) := by decide +kernel
theorem dX6_addHearer_46 : decode cX6_addHearer 46 = .ok (.iadd, 1) := by decide +kernel
theorem dX6_addHearer_47 : decode cX6_addHearer 47 = .ok (.putfield 25, 3) := by decide +kernel
theorem dX6_addHearer_50 : decode cX6_addHearer 50 = .ok (.iload_n 3, 1) := by decide +kernel
theorem dX6_addHearer_51 : decode cX6_addHearer 51 = .ok (.ireturn, 1) := by decide +kernel
theorem dX6_trait_0 : decode cX6_trait 0 = .ok (.iload_n 2, 1) := by decide +kernel
theorem dX6_trait_1 : decode cX6_trait 1 = .ok (.tableswitch 59 0 3 #[31, 38, 45, 52], 31) := by decide +kernel
theorem dX6_trait_32 : decode cX6_trait 32 = .ok (.aload_n 0, 1) := by decide +kernel
theorem dX6_trait_33 : decode cX6_trait 33 = .ok (.getfield 28, 3) := by decide +kernel
theorem dX6_trait_36 : decode cX6_trait 36 = .ok (.iload_n 1, 1) := by decide +kernel
theorem dX6_trait_37 : decode cX6_trait 37 = .ok (.iaload, 1) := by decide +kernel
theorem dX6_trait_38 : decode cX6_trait 38 = .ok (.ireturn, 1) := by decide +kernel
theorem dX6_trait_39 : decode cX6_trait 39 = .ok (.aload_n 0, 1) := by decide +kernel
theorem dX6_trait_40 : decode cX6_trait 40 = .ok (.getfield 31, 3) := by decide +kernel
theorem dX6_trait_43 : decode cX6_trait 43 = .ok (.iload_n 1, 1) := by decide +kernel
theorem dX6_trait_44 : decode cX6_trait 44 = .ok (.iaload, 1) := by decide +kernel
theorem dX6_trait_45 : decode cX6_trait 45 = .ok (.ireturn, 1) := by decide +kernel
theorem dX6_trait_46 : decode cX6_trait 46 = .ok (.aload_n 0, 1) := by decide +kernel
theorem dX6_trait_47 : decode cX6_trait 47 = .ok (.getfield 34, 3) := by decide +kernel
theorem dX6_trait_50 : decode cX6_trait 50 = .ok (.iload_n 1, 1) := by decide +kernel
theorem dX6_trait_51 : decode cX6_trait 51 = .ok (.iaload, 1) := by decide +kernel
theorem dX6_trait_52 : decode cX6_trait 52 = .ok (.ireturn, 1) := by decide +kernel
theorem dX6_trait_53 : decode cX6_trait 53 = .ok (.aload_n 0, 1) := by decide +kernel
theorem dX6_trait_54 : decode cX6_trait 54 = .ok (.getfield 37, 3) := by decide +kernel
theorem dX6_trait_57 : decode cX6_trait 57 = .ok (.iload_n 1, 1) := by decide +kernel
theorem dX6_trait_58 : decode cX6_trait 58 = .ok (.iaload, 1) := by decide +kernel
theorem dX6_trait_59 : decode cX6_trait 59 = .ok (.ireturn, 1) := by decide +kernel
theorem dX6_trait_60 : decode cX6_trait 60 = .ok (.aload_n 0, 1) := by decide +kernel
theorem dX6_trait_61 : decode cX6_trait 61 = .ok (.getfield 40, 3) := by decide +kernel
theorem dX6_trait_64 : decode cX6_trait 64 = .ok (.iload_n 1, 1) := by decide +kernel
theorem dX6_trait_65 : decode cX6_trait 65 = .ok (.iaload, 1) := by decide +kernel
theorem dX6_trait_66 : decode cX6_trait 66 = .ok (.ireturn, 1) := by decide +kernel
theorem dX6_become_0 : decode cX6_become 0 = .ok (.iload_n 2, 1) := by decide +kernel
theorem dX6_become_1 : decode cX6_become 1 = .ok (.tableswitch 71 0 3 #[31, 41, 51, 61], 31) := by decide +kernel
theorem dX6_become_32 : decode cX6_become 32 = .ok (.aload_n 0, 1) := by decide +kernel
theorem dX6_become_33 : decode cX6_become 33 = .ok (.getfield 28, 3) := by decide +kernel
theorem dX6_become_36 : decode cX6_become 36 = .ok (.iload_n 1, 1) := by decide +kernel
theorem dX6_become_37 : decode cX6_become 37 = .ok (.iload_n 3, 1) := by decide +kernel
theorem dX6_become_38 : decode cX6_become 38 = .ok (.iastore, 1) := by decide +kernel
theorem dX6_become_39 : decode cX6_become 39 = .ok (.goto 40, 3) := by decide +kernel
theorem dX6_become_42 : decode cX6_become 42 = .ok (.aload_n 0, 1) := by decide +kernel
theorem dX6_become_43 : decode cX6_become 43 = .ok (.getfield 31, 3) := by decide +kernel
theorem dX6_become_46 : decode cX6_become 46 = .ok (.iload_n 1, 1) := by decide +kernel
theorem dX6_become_47 : decode cX6_become 47 = .ok (.iload_n 3, 1) := by decide +kernel
theorem dX6_become_48 : decode cX6_become 48 = .ok (.iastore, 1) := by decide +kernel
theorem dX6_become_49 : decode cX6_become 49 = .ok (.goto 30, 3) := by decide +kernel
theorem dX6_become_52 : decode cX6_become 52 = .ok (.aload_n 0, 1) := by decide +kernel
theorem dX6_become_53 : decode cX6_become 53 = .ok (.getfield 34, 3) := by decide +kernel
theorem dX6_become_56 : decode cX6_become 56 = .ok (.iload_n 1, 1) := by decide +kernel
theorem dX6_become_57 : decode cX6_become 57 = .ok (.iload_n 3, 1) := by decide +kernel
theorem dX6_become_58 : decode cX6_become 58 = .ok (.iastore, 1) := by decide +kernel
theorem dX6_become_59 : decode cX6_become 59 = .ok (.goto 20, 3) := by decide +kernel
theorem dX6_become_62 : decode cX6_become 62 = .ok (.aload_n 0, 1) := by decide +kernel
theorem dX6_become_63 : decode cX6_become 63 = .ok (.getfield 37, 3) := by decide +kernel
theorem dX6_become_66 : decode cX6_become 66 = .ok (.iload_n 1, 1) := by decide +kernel
theorem dX6_become_67 : decode cX6_become 67 = .ok (.iload_n 3, 1) := by decide +kernel
theorem dX6_become_68 : decode cX6_become 68 = .ok (.iastore, 1) := by decide +kernel
theorem dX6_become_69 : decode cX6_become 69 = .ok (.goto 10, 3) := by decide +kernel
theorem dX6_become_72 : decode cX6_become 72 = .ok (.aload_n 0, 1) := by decide +kernel
theorem dX6_become_73 : decode cX6_become 73 = .ok (.getfield 40, 3) := by decide +kernel
theorem dX6_become_76 : decode cX6_become 76 = .ok (.iload_n 1, 1) := by decide +kernel
theorem dX6_become_77 : decode cX6_become 77 = .ok (.iload_n 3, 1) := by decide +kernel
theorem dX6_become_78 : decode cX6_become 78 = .ok (.iastore, 1) := by decide +kernel
theorem dX6_become_79 : decode cX6_become 79 = .ok (.return_, 1) := by decide +kernel
theorem dX6_says_0 : decode cX6_says 0 = .ok (.aload_n 0, 1) := by decide +kernel
theorem dX6_says_1 : decode cX6_says 1 = .ok (.getfield 52, 3) := by decide +kernel
theorem dX6_says_4 : decode cX6_says 4 = .ok (.getfield 64, 3) := by decide +kernel
theorem dX6_says_7 : decode cX6_says 7 = .ok (.astore 5, 2) := by decide +kernel
theorem dX6_says_9 : decode cX6_says 9 = .ok (.aload 5, 2) := by decide +kernel
theorem dX6_says_11 : decode cX6_says 11 = .ok (.iconst 0, 1) := by decide +kernel
theorem dX6_says_12 : decode cX6_says 12 = .ok (.iload_n 2, 1) := by decide +kernel
theorem dX6_says_13 : decode cX6_says 13 = .ok (.iastore, 1) := by decide +kernel
theorem dX6_says_14 : decode cX6_says 14 = .ok (.aload 5, 2) := by decide +kernel
theorem dX6_says_16 : decode cX6_says 16 = .ok (.iconst 1, 1) := by decide +kernel
theorem dX6_says_17 : decode cX6_says 17 = .ok (.aload_n 0, 1) := by decide +kernel
theorem dX6_says_18 : decode cX6_says 18 = .ok (.getfield 28, 3) := by decide +kernel
theorem dX6_says_21 : decode cX6_says 21 = .ok (.iload_n 3, 1) := by decide +kernel
theorem dX6_says_22 : decode cX6_says 22 = .ok (.iaload, 1) := by decide +kernel
theorem dX6_says_23 : decode cX6_says 23 = .ok (.iastore, 1) := by decide +kernel
theorem dX6_says_24 : decode cX6_says 24 = .ok (.aload 5, 2) := by decide +kernel
theorem dX6_says_26 : decode cX6_says 26 = .ok (.iconst 2, 1) := by decide +kernel
theorem dX6_says_27 : decode cX6_says 27 = .ok (.iload 4, 2) := by decide +kernel
theorem dX6_says_29 : decode cX6_says 29 = .ok (.iastore, 1) := by decide +kernel
theorem dX6_says_30 : decode cX6_says 30 = .ok (.aload 5, 2) := by decide +kernel
theorem dX6_says_32 : decode cX6_says 32 = .ok (.iconst 3, 1) := by decide +kernel
theorem dX6_says_33 : decode cX6_says 33 = .ok (.aload_n 0, 1) := by decide +kernel
theorem dX6_says_34 : decode cX6_says 34 = .ok (.getfield 46, 3) := by decide +kernel
theorem dX6_says_37 : decode cX6_says 37 = .ok (.iastore, 1) := by decide +kernel
theorem dX6_says_38 : decode cX6_says 38 = .ok (.aload 5, 2) := by decide +kernel
theorem dX6_says_40 : decode cX6_says 40 = .ok (.iconst 4, 1) := by decide +kernel
theorem dX6_says_41 : decode cX6_says 41 = .ok (.aload_n 0, 1) := by decide +kernel
theorem dX6_says_42 : decode cX6_says 42 = .ok (.getfield 31, 3) := by decide +kernel
theorem dX6_says_45 : decode cX6_says 45 = .ok (.iload_n 3, 1) := by decide +kernel
theorem dX6_says_46 : decode cX6_says 46 = .ok (.iaload, 1) := by decide +kernel
theorem dX6_says_47 : decode cX6_says 47 = .ok (.iastore, 1) := by decide +kernel
theorem dX6_says_48 : decode cX6_says 48 = .ok (.aload 5, 2) := by decide +kernel
theorem dX6_says_50 : decode cX6_says 50 = .ok (.iconst 5, 1) := by decide +kernel
theorem dX6_says_51 : decode cX6_says 51 = .ok (.iload_n 3, 1) := by decide +kernel
theorem dX6_says_52 : decode cX6_says 52 = .ok (.iastore, 1) := by decide +kernel
theorem dX6_says_53 : decode cX6_says 53 = .ok (.aload_n 0, 1) := by decide +kernel
theorem dX6_says_54 : decode cX6_says 54 = .ok (.getfield 52, 3) := by decide +kernel
theorem dX6_says_57 : decode cX6_says 57 = .ok (.aload_n 0, 1) := by decide +kernel
theorem dX6_says_58 : decode cX6_says 58 = .ok (.getfield 49, 3) := by decide +kernel
theorem dX6_says_61 : decode cX6_says 61 = .ok (.iload_n 1, 1) := by decide +kernel
theorem dX6_says_62 : decode cX6_says 62 = .ok (.invokevirtual 69, 3) := by decide +kernel
theorem dX6_says_65 : decode cX6_says 65 = .ok (.iload_n 1, 1) := by decide +kernel
theorem dX6_says_66 : decode cX6_says 66 = .ok (.iconst 1, 1) := by decide +kernel
theorem dX6_says_67 : decode cX6_says 67 = .ok (.if_icmp .ne 8, 3) := by decide +kernel
theorem dX6_says_70 : decode cX6_says 70 = .ok (.bipush 100, 2) := by decide +kernel
theorem dX6_says_72 : decode cX6_says 72 = .ok (.goto 5, 3) := by decide +kernel
theorem dX6_says_75 : decode cX6_says 75 = .ok (.bipush 99, 2) := by decide +kernel
theorem dX6_says_77 : decode cX6_says 77 = .ok (.invokestatic 73, 3) := by decide +kernel
theorem dX6_says_80 : decode cX6_says 80 = .ok (.ireturn, 1) := by decide +kernel
theorem dX6_worth_0 : decode cX6_worth 0 = .ok (.aload_n 0, 1) := by decide +kernel
theorem dX6_worth_1 : decode cX6_worth 1 = .ok (.iconst 0, 1) := by decide +kernel
theorem dX6_worth_2 : decode cX6_worth 2 = .ok (.aload_n 0, 1) := by decide +kernel
theorem dX6_worth_3 : decode cX6_worth 3 = .ok (.getfield 22, 3) := by decide +kernel
theorem dX6_worth_6 : decode cX6_worth 6 = .ok (.iload_n 1, 1) := by decide +kernel
theorem dX6_worth_7 : decode cX6_worth 7 = .ok (.iaload, 1) := by decide +kernel
theorem dX6_worth_8 : decode cX6_worth 8 = .ok (.iload_n 2, 1) := by decide +kernel
theorem dX6_worth_9 : decode cX6_worth 9 = .ok (.aload_n 0, 1) := by decide +kernel
theorem dX6_worth_10 : decode cX6_worth 10 = .ok (.getfield 19, 3) := by decide +kernel
theorem dX6_worth_13 : decode cX6_worth 13 = .ok (.iload_n 1, 1) := by decide +kernel
theorem dX6_worth_14 : decode cX6_worth 14 = .ok (.iaload, 1) := by decide +kernel
theorem dX6_worth_15 : decode cX6_worth 15 = .ok (.invokevirtual 76, 3) := by decide +kernel
theorem dX6_worth_18 : decode cX6_worth 18 = .ok (.istore_n 3, 1) := by decide +kernel
theorem dX6_worth_19 : decode cX6_worth 19 = .ok (.aload_n 0, 1) := by decide +kernel
theorem dX6_worth_20 : decode cX6_worth 20 = .ok (.getfield 15, 3) := by decide +kernel
theorem dX6_worth_23 : decode cX6_worth 23 = .ok (.iload_n 1, 1) := by decide +kernel
theorem dX6_worth_24 : decode cX6_worth 24 = .ok (.iaload, 1) := by decide +kernel
theorem dX6_worth_25 : decode cX6_worth 25 = .ok (.iload_n 3, 1) := by decide +kernel
theorem dX6_worth_26 : decode cX6_worth 26 = .ok (.aload_n 0, 1) := by decide +kernel
theorem dX6_worth_27 : decode cX6_worth 27 = .ok (.getfield 22, 3) := by decide +kernel
theorem dX6_worth_30 : decode cX6_worth 30 = .ok (.iload_n 1, 1) := by decide +kernel
theorem dX6_worth_31 : decode cX6_worth 31 = .ok (.iaload, 1) := by decide +kernel
theorem dX6_worth_32 : decode cX6_worth 32 = .ok (.aload_n 0, 1) := by decide +kernel
theorem dX6_worth_33 : decode cX6_worth 33 = .ok (.getfield 37, 3) := by decide +kernel
theorem dX6_worth_36 : decode cX6_worth 36 = .ok (.iload_n 2, 1) := by decide +kernel
theorem dX6_worth_37 : decode cX6_worth 37 = .ok (.iaload, 1) := by decide +kernel
theorem dX6_worth_38 : decode cX6_worth 38 = .ok (.iload_n 1, 1) := by decide +kernel
theorem dX6_worth_39 : decode cX6_worth 39 = .ok (.invokestatic 80, 3) := by decide +kernel
theorem dX6_worth_42 : decode cX6_worth 42 = .ok (.aload_n 0, 1) := by decide +kernel
theorem dX6_worth_43 : decode cX6_worth 43 = .ok (.getfield 19, 3) := by decide +kernel
theorem dX6_worth_46 : decode cX6_worth 46 = .ok (.iload_n 1, 1) := by decide +kernel
theorem dX6_worth_47 : decode cX6_worth 47 = .ok (.iaload, 1) := by decide +kernel
theorem dX6_worth_48 : decode cX6_worth 48 = .ok (.invokestatic 84, 3) := by decide +kernel
theorem dX6_worth_51 : decode cX6_worth 51 = .ok (.bipush 99, 2) := by decide +kernel
theorem dX6_worth_53 : decode cX6_worth 53 = .ok (.invokestatic 73, 3) := by decide +kernel
theorem dX6_worth_56 : decode cX6_worth 56 = .ok (.ireturn, 1) := by decide +kernel
theorem dX6_telling_0 : decode cX6_telling 0 = .ok (.aload_n 0, 1) := by decide +kernel
theorem dX6_telling_1 : decode cX6_telling 1 = .ok (.iload_n 1, 1) := by decide +kernel
theorem dX6_telling_2 : decode cX6_telling 2 = .ok (.iload_n 2, 1) := by decide +kernel
theorem dX6_telling_3 : decode cX6_telling 3 = .ok (.invokevirtual 90, 3) := by decide +kernel
theorem dX6_telling_6 : decode cX6_telling 6 = .ok (.istore_n 3, 1) := by decide +kernel
theorem dX6_telling_7 : decode cX6_telling 7 = .ok (.aload_n 0, 1) := by decide +kernel
theorem dX6_telling_8 : decode cX6_telling 8 = .ok (.iload_n 1, 1) := by decide +kernel
theorem dX6_telling_9 : decode cX6_telling 9 = .ok (.iload_n 2, 1) := by decide +kernel
theorem dX6_telling_10 : decode cX6_telling 10 = .ok (.iload_n 3, 1) := by decide +kernel
theorem dX6_telling_11 : decode cX6_telling 11 = .ok (.invokevirtual 92, 3) := by decide +kernel
theorem dX6_telling_14 : decode cX6_telling 14 = .ok (.iload_n 3, 1) := by decide +kernel
theorem dX6_telling_15 : decode cX6_telling 15 = .ok (.ireturn, 1) := by decide +kernel
theorem dX6_laugh_0 : decode cX6_laugh 0 = .ok (.aload_n 0, 1) := by decide +kernel
theorem dX6_laugh_1 : decode cX6_laugh 1 = .ok (.getfield 31, 3) := by decide +kernel
theorem dX6_laugh_4 : decode cX6_laugh 4 = .ok (.iload_n 2, 1) := by decide +kernel
theorem dX6_laugh_5 : decode cX6_laugh 5 = .ok (.sipush 9999, 3) := by decide +kernel
theorem dX6_laugh_8 : decode cX6_laugh 8 = .ok (.aload_n 0, 1) := by decide +kernel
theorem dX6_laugh_9 : decode cX6_laugh 9 = .ok (.getfield 31, 3) := by decide +kernel
theorem dX6_laugh_12 : decode cX6_laugh 12 = .ok (.iload_n 2, 1) := by decide +kernel
theorem dX6_laugh_13 : decode cX6_laugh 13 = .ok (.iaload, 1) := by decide +kernel
theorem dX6_laugh_14 : decode cX6_laugh 14 = .ok (.iload_n 3, 1) := by decide +kernel
theorem dX6_laugh_15 : decode cX6_laugh 15 = .ok (.iadd, 1) := by decide +kernel
theorem dX6_laugh_16 : decode cX6_laugh 16 = .ok (.invokestatic 96, 3) := by decide +kernel
theorem dX6_laugh_19 : decode cX6_laugh 19 = .ok (.iastore, 1) := by decide +kernel
theorem dX6_laugh_20 : decode cX6_laugh 20 = .ok (.aload_n 0, 1) := by decide +kernel
theorem dX6_laugh_21 : decode cX6_laugh 21 = .ok (.getfield 22, 3) := by decide +kernel
theorem dX6_laugh_24 : decode cX6_laugh 24 = .ok (.iload_n 1, 1) := by decide +kernel
theorem dX6_laugh_25 : decode cX6_laugh 25 = .ok (.bipush 99, 2) := by decide +kernel
theorem dX6_laugh_27 : decode cX6_laugh 27 = .ok (.aload_n 0, 1) := by decide +kernel
theorem dX6_laugh_28 : decode cX6_laugh 28 = .ok (.getfield 22, 3) := by decide +kernel
theorem dX6_laugh_31 : decode cX6_laugh 31 = .ok (.iload_n 1, 1) := by decide +kernel
theorem dX6_laugh_32 : decode cX6_laugh 32 = .ok (.iaload, 1) := by decide +kernel
theorem dX6_laugh_33 : decode cX6_laugh 33 = .ok (.aload_n 0, 1) := by decide +kernel
theorem dX6_laugh_34 : decode cX6_laugh 34 = .ok (.getfield 15, 3) := by decide +kernel
theorem dX6_laugh_37 : decode cX6_laugh 37 = .ok (.iload_n 1, 1) := by decide +kernel
theorem dX6_laugh_38 : decode cX6_laugh 38 = .ok (.iaload, 1) := by decide +kernel
theorem dX6_laugh_39 : decode cX6_laugh 39 = .ok (.invokestatic 101, 3) := by decide +kernel
theorem dX6_laugh_42 : decode cX6_laugh 42 = .ok (.iadd, 1) := by decide +kernel
theorem dX6_laugh_43 : decode cX6_laugh 43 = .ok (.invokestatic 96, 3) := by decide +kernel
theorem dX6_laugh_46 : decode cX6_laugh 46 = .ok (.iastore, 1) := by decide +kernel
theorem dX6_laugh_47 : decode cX6_laugh 47 = .ok (.aload_n 0, 1) := by decide +kernel
theorem dX6_laugh_48 : decode cX6_laugh 48 = .ok (.getfield 37, 3) := by decide +kernel
theorem dX6_laugh_51 : decode cX6_laugh 51 = .ok (.iload_n 2, 1) := by decide +kernel
theorem dX6_laugh_52 : decode cX6_laugh 52 = .ok (.dup2, 1) := by decide +kernel
theorem dX6_laugh_53 : decode cX6_laugh 53 = .ok (.iaload, 1) := by decide +kernel
theorem dX6_laugh_54 : decode cX6_laugh 54 = .ok (.iconst 1, 1) := by decide +kernel
theorem dX6_laugh_55 : decode cX6_laugh 55 = .ok (.iload_n 1, 1) := by decide +kernel
theorem dX6_laugh_56 : decode cX6_laugh 56 = .ok (.ishl, 1) := by decide +kernel
theorem dX6_laugh_57 : decode cX6_laugh 57 = .ok (.ior, 1) := by decide +kernel
theorem dX6_laugh_58 : decode cX6_laugh 58 = .ok (.iastore, 1) := by decide +kernel
theorem dX6_laugh_59 : decode cX6_laugh 59 = .ok (.return_, 1) := by decide +kernel
theorem dX6_fading_0 : decode cX6_fading 0 = .ok (.aload_n 0, 1) := by decide +kernel
theorem dX6_fading_1 : decode cX6_fading 1 = .ok (.getfield 31, 3) := by decide +kernel
theorem dX6_fading_4 : decode cX6_fading 4 = .ok (.iload_n 1, 1) := by decide +kernel
theorem dX6_fading_5 : decode cX6_fading 5 = .ok (.iaload, 1) := by decide +kernel
theorem dX6_fading_6 : decode cX6_fading 6 = .ok (.aload_n 0, 1) := by decide +kernel
theorem dX6_fading_7 : decode cX6_fading 7 = .ok (.iconst 1, 1) := by decide +kernel
theorem dX6_fading_8 : decode cX6_fading 8 = .ok (.iconst 0, 1) := by decide +kernel
theorem dX6_fading_9 : decode cX6_fading 9 = .ok (.iload_n 1, 1) := by decide +kernel
theorem dX6_fading_10 : decode cX6_fading 10 = .ok (.iconst 0, 1) := by decide +kernel
theorem dX6_fading_11 : decode cX6_fading 11 = .ok (.invokevirtual 76, 3) := by decide +kernel
theorem dX6_fading_14 : decode cX6_fading 14 = .ok (.imul, 1) := by decide +kernel
theorem dX6_fading_15 : decode cX6_fading 15 = .ok (.bipush 100, 2) := by decide +kernel
theorem dX6_fading_17 : decode cX6_fading 17 = .ok (.idiv, 1) := by decide +kernel
theorem dX6_fading_18 : decode cX6_fading 18 = .ok (.ireturn, 1) := by decide +kernel
theorem dX6_dearest_0 : decode cX6_dearest 0 = .ok (.iconst 0, 1) := by decide +kernel
theorem dX6_dearest_1 : decode cX6_dearest 1 = .ok (.istore_n 1, 1) := by decide +kernel
theorem dX6_dearest_2 : decode cX6_dearest 2 = .ok (.iconst (-1), 1) := by decide +kernel
theorem dX6_dearest_3 : decode cX6_dearest 3 = .ok (.istore_n 2, 1) := by decide +kernel
theorem dX6_dearest_4 : decode cX6_dearest 4 = .ok (.iconst 0, 1) := by decide +kernel
theorem dX6_dearest_5 : decode cX6_dearest 5 = .ok (.istore_n 3, 1) := by decide +kernel
theorem dX6_dearest_6 : decode cX6_dearest 6 = .ok (.iload_n 3, 1) := by decide +kernel
theorem dX6_dearest_7 : decode cX6_dearest 7 = .ok (.aload_n 0, 1) := by decide +kernel
theorem dX6_dearest_8 : decode cX6_dearest 8 = .ok (.getfield 9, 3) := by decide +kernel
theorem dX6_dearest_11 : decode cX6_dearest 11 = .ok (.if_icmp .ge 53, 3) := by decide +kernel
theorem dX6_dearest_14 : decode cX6_dearest 14 = .ok (.iconst 0, 1) := by decide +kernel
theorem dX6_dearest_15 : decode cX6_dearest 15 = .ok (.istore 4, 2) := by decide +kernel
theorem dX6_dearest_17 : decode cX6_dearest 17 = .ok (.iload 4, 2) := by decide +kernel
theorem dX6_dearest_19 : decode cX6_dearest 19 = .ok (.aload_n 0, 1) := by decide +kernel
theorem dX6_dearest_20 : decode cX6_dearest 20 = .ok (.getfield 25, 3) := by decide +kernel
theorem dX6_dearest_23 : decode cX6_dearest 23 = .ok (.if_icmp .ge 35, 3) := by decide +kernel
theorem dX6_dearest_26 : decode cX6_dearest 26 = .ok (.aload_n 0, 1) := by decide +kernel
theorem dX6_dearest_27 : decode cX6_dearest 27 = .ok (.iload_n 3, 1) := by decide +kernel
theorem dX6_dearest_28 : decode cX6_dearest 28 = .ok (.iload 4, 2) := by decide +kernel
theorem dX6_dearest_30 : decode cX6_dearest 30 = .ok (.invokevirtual 90, 3) := by decide +kernel
theorem dX6_dearest_33 : decode cX6_dearest 33 = .ok (.istore 5, 2) := by decide +kernel
theorem dX6_dearest_35 : decode cX6_dearest 35 = .ok (.iload 5, 2) := by decide +kernel
theorem dX6_dearest_37 : decode cX6_dearest 37 = .ok (.iload_n 2, 1) := by decide +kernel
theorem dX6_dearest_38 : decode cX6_dearest 38 = .ok (.if_icmp .le 14, 3) := by decide +kernel
theorem dX6_dearest_41 : decode cX6_dearest 41 = .ok (.iload 5, 2) := by decide +kernel
theorem dX6_dearest_43 : decode cX6_dearest 43 = .ok (.istore_n 2, 1) := by decide +kernel
theorem dX6_dearest_44 : decode cX6_dearest 44 = .ok (.bipush 10, 2) := by decide +kernel
theorem dX6_dearest_46 : decode cX6_dearest 46 = .ok (.iload_n 3, 1) := by decide +kernel
theorem dX6_dearest_47 : decode cX6_dearest 47 = .ok (.imul, 1) := by decide +kernel
theorem dX6_dearest_48 : decode cX6_dearest 48 = .ok (.iload 4, 2) := by decide +kernel
theorem dX6_dearest_50 : decode cX6_dearest 50 = .ok (.iadd, 1) := by decide +kernel
theorem dX6_dearest_51 : decode cX6_dearest 51 = .ok (.istore_n 1, 1) := by decide +kernel
theorem dX6_dearest_52 : decode cX6_dearest 52 = .ok (.iinc 4 1, 3) := by decide +kernel
theorem dX6_dearest_55 : decode cX6_dearest 55 = .ok (.goto (-38), 3) := by decide +kernel
theorem dX6_dearest_58 : decode cX6_dearest 58 = .ok (.iinc 3 1, 3) := by decide +kernel
theorem dX6_dearest_61 : decode cX6_dearest 61 = .ok (.goto (-55), 3) := by decide +kernel
theorem dX6_dearest_64 : decode cX6_dearest 64 = .ok (.iload_n 1, 1) := by decide +kernel
theorem dX6_dearest_65 : decode cX6_dearest 65 = .ok (.ireturn, 1) := by decide +kernel
theorem dX6_minute_0 : decode cX6_minute 0 = .ok (.iload_n 1, 1) := by decide +kernel
theorem dX6_minute_1 : decode cX6_minute 1 = .ok (.istore_n 3, 1) := by decide +kernel
theorem dX6_minute_2 : decode cX6_minute 2 = .ok (.iconst 0, 1) := by decide +kernel
theorem dX6_minute_3 : decode cX6_minute 3 = .ok (.istore 4, 2) := by decide +kernel
theorem dX6_minute_5 : decode cX6_minute 5 = .ok (.iload 4, 2) := by decide +kernel
theorem dX6_minute_7 : decode cX6_minute 7 = .ok (.aload_n 0, 1) := by decide +kernel
theorem dX6_minute_8 : decode cX6_minute 8 = .ok (.getfield 25, 3) := by decide +kernel
theorem dX6_minute_11 : decode cX6_minute 11 = .ok (.if_icmp .ge 53, 3) := by decide +kernel
theorem dX6_minute_14 : decode cX6_minute 14 = .ok (.aload_n 0, 1) := by decide +kernel
theorem dX6_minute_15 : decode cX6_minute 15 = .ok (.getfield 34, 3) := by decide +kernel
theorem dX6_minute_18 : decode cX6_minute 18 = .ok (.iload 4, 2) := by decide +kernel
theorem dX6_minute_20 : decode cX6_minute 20 = .ok (.iaload, 1) := by decide +kernel
theorem dX6_minute_21 : decode cX6_minute 21 = .ok (.iload_n 2, 1) := by decide +kernel
theorem dX6_minute_22 : decode cX6_minute 22 = .ok (.iand, 1) := by decide +kernel
theorem dX6_minute_23 : decode cX6_minute 23 = .ok (.iload_n 1, 1) := by decide +kernel
theorem dX6_minute_24 : decode cX6_minute 24 = .ok (.iand, 1) := by decide +kernel
theorem dX6_minute_25 : decode cX6_minute 25 = .ok (.invokestatic 105, 3) := by decide +kernel
theorem dX6_minute_28 : decode cX6_minute 28 = .ok (.istore 5, 2) := by decide +kernel
theorem dX6_minute_30 : decode cX6_minute 30 = .ok (.iload_n 2, 1) := by decide +kernel
theorem dX6_minute_31 : decode cX6_minute 31 = .ok (.iload 4, 2) := by decide +kernel
theorem dX6_minute_33 : decode cX6_minute 33 = .ok (.invokestatic 80, 3) := by decide +kernel
theorem dX6_minute_36 : decode cX6_minute 36 = .ok (.ifCond .eq 22, 3) := by decide +kernel
theorem dX6_minute_39 : decode cX6_minute 39 = .ok (.iload 5, 2) := by decide +kernel
theorem dX6_minute_41 : decode cX6_minute 41 = .ok (.aload_n 0, 1) := by decide +kernel
theorem dX6_minute_42 : decode cX6_minute 42 = .ok (.getfield 40, 3) := by decide +kernel
theorem dX6_minute_45 : decode cX6_minute 45 = .ok (.iload 4, 2) := by decide +kernel
theorem dX6_minute_47 : decode cX6_minute 47 = .ok (.iaload, 1) := by decide +kernel
theorem dX6_minute_48 : decode cX6_minute 48 = .ok (.if_icmp .lt 10, 3) := by decide +kernel
theorem dX6_minute_51 : decode cX6_minute 51 = .ok (.iload_n 3, 1) := by decide +kernel
theorem dX6_minute_52 : decode cX6_minute 52 = .ok (.iconst 1, 1) := by decide +kernel
theorem dX6_minute_53 : decode cX6_minute 53 = .ok (.iload 4, 2) := by decide +kernel
theorem dX6_minute_55 : decode cX6_minute 55 = .ok (.ishl, 1) := by decide +kernel
theorem dX6_minute_56 : decode cX6_minute 56 = .ok (.ior, 1) := by decide +kernel
theorem dX6_minute_57 : decode cX6_minute 57 = .ok (.istore_n 3, 1) := by decide +kernel
theorem dX6_minute_58 : decode cX6_minute 58 = .ok (.iinc 4 1, 3) := by decide +kernel
theorem dX6_minute_61 : decode cX6_minute 61 = .ok (.goto (-56), 3) := by decide +kernel
theorem dX6_minute_64 : decode cX6_minute 64 = .ok (.iload_n 3, 1) := by decide +kernel
theorem dX6_minute_65 : decode cX6_minute 65 = .ok (.ireturn, 1) := by decide +kernel
theorem dX6_minutesTillLast_0 : decode cX6_minutesTillLast 0 = .ok (.iload_n 1, 1) := by decide +kernel
theorem dX6_minutesTillLast_1 : decode cX6_minutesTillLast 1 = .ok (.istore_n 3, 1) := by decide +kernel
theorem dX6_minutesTillLast_2 : decode cX6_minutesTillLast 2 = .ok (.iconst 0, 1) := by decide +kernel
theorem dX6_minutesTillLast_3 : decode cX6_minutesTillLast 3 = .ok (.istore 4, 2) := by decide +kernel
theorem dX6_minutesTillLast_5 : decode cX6_minutesTillLast 5 = .ok (.iload 4, 2) := by decide +kernel
theorem dX6_minutesTillLast_7 : decode cX6_minutesTillLast 7 = .ok (.bipush 6, 2) := by decide +kernel
theorem dX6_minutesTillLast_9 : decode cX6_minutesTillLast 9 = .ok (.if_icmp .ge 29, 3) := by decide +kernel
theorem dX6_minutesTillLast_12 : decode cX6_minutesTillLast 12 = .ok (.aload_n 0, 1) := by decide +kernel
theorem dX6_minutesTillLast_13 : decode cX6_minutesTillLast 13 = .ok (.iload_n 3, 1) := by decide +kernel
theorem dX6_minutesTillLast_14 : decode cX6_minutesTillLast 14 = .ok (.iload_n 2, 1) := by decide +kernel
theorem dX6_minutesTillLast_15 : decode cX6_minutesTillLast 15 = .ok (.invokevirtual 110, 3) := by decide +kernel
theorem dX6_minutesTillLast_18 : decode cX6_minutesTillLast 18 = .ok (.istore 5, 2) := by decide +kernel
theorem dX6_minutesTillLast_20 : decode cX6_minutesTillLast 20 = .ok (.iload 5, 2) := by decide +kernel
theorem dX6_minutesTillLast_22 : decode cX6_minutesTillLast 22 = .ok (.iload_n 3, 1) := by decide +kernel
theorem dX6_minutesTillLast_23 : decode cX6_minutesTillLast 23 = .ok (.if_icmp .ne 6, 3) := by decide +kernel
theorem dX6_minutesTillLast_26 : decode cX6_minutesTillLast 26 = .ok (.iload 4, 2) := by decide +kernel
theorem dX6_minutesTillLast_28 : decode cX6_minutesTillLast 28 = .ok (.ireturn, 1) := by decide +kernel
theorem dX6_minutesTillLast_29 : decode cX6_minutesTillLast 29 = .ok (.iload 5, 2) := by decide +kernel
theorem dX6_minutesTillLast_31 : decode cX6_minutesTillLast 31 = .ok (.istore_n 3, 1) := by decide +kernel
theorem dX6_minutesTillLast_32 : decode cX6_minutesTillLast 32 = .ok (.iinc 4 1, 3) := by decide +kernel
theorem dX6_minutesTillLast_35 : decode cX6_minutesTillLast 35 = .ok (.goto (-30), 3) := by decide +kernel
theorem dX6_minutesTillLast_38 : decode cX6_minutesTillLast 38 = .ok (.bipush 6, 2) := by decide +kernel
theorem dX6_minutesTillLast_40 : decode cX6_minutesTillLast 40 = .ok (.ireturn, 1) := by decide +kernel
theorem dX6_atLast_0 : decode cX6_atLast 0 = .ok (.iload_n 1, 1) := by decide +kernel
theorem dX6_atLast_1 : decode cX6_atLast 1 = .ok (.istore_n 3, 1) := by decide +kernel
theorem dX6_atLast_2 : decode cX6_atLast 2 = .ok (.iconst 0, 1) := by decide +kernel
theorem dX6_atLast_3 : decode cX6_atLast 3 = .ok (.istore 4, 2) := by decide +kernel
theorem dX6_atLast_5 : decode cX6_atLast 5 = .ok (.iload 4, 2) := by decide +kernel
theorem dX6_atLast_7 : decode cX6_atLast 7 = .ok (.bipush 6, 2) := by decide +kernel
theorem dX6_atLast_9 : decode cX6_atLast 9 = .ok (.if_icmp .ge 16, 3) := by decide +kernel
theorem dX6_atLast_12 : decode cX6_atLast 12 = .ok (.aload_n 0, 1) := by decide +kernel
theorem dX6_atLast_13 : decode cX6_atLast 13 = .ok (.iload_n 3, 1) := by decide +kernel
theorem dX6_atLast_14 : decode cX6_atLast 14 = .ok (.iload_n 2, 1) := by decide +kernel
theorem dX6_atLast_15 : decode cX6_atLast 15 = .ok (.invokevirtual 110, 3) := by decide +kernel
theorem dX6_atLast_18 : decode cX6_atLast 18 = .ok (.istore_n 3, 1) := by decide +kernel
theorem dX6_atLast_19 : decode cX6_atLast 19 = .ok (.iinc 4 1, 3) := by decide +kernel
theorem dX6_atLast_22 : decode cX6_atLast 22 = .ok (.goto (-17), 3) := by decide +kernel
theorem dX6_atLast_25 : decode cX6_atLast 25 = .ok (.iload_n 3, 1) := by decide +kernel
theorem dX6_atLast_26 : decode cX6_atLast 26 = .ok (.ireturn, 1) := by decide +kernel
theorem dX6_haveBehind_0 : decode cX6_haveBehind 0 = .ok (.aload_n 0, 1) := by decide +kernel
theorem dX6_haveBehind_1 : decode cX6_haveBehind 1 = .ok (.getfield 15, 3) := by decide +kernel
theorem dX6_haveBehind_4 : decode cX6_haveBehind 4 = .ok (.iload_n 1, 1) := by decide +kernel
theorem dX6_haveBehind_5 : decode cX6_haveBehind 5 = .ok (.iaload, 1) := by decide +kernel
theorem dX6_haveBehind_6 : decode cX6_haveBehind 6 = .ok (.aload_n 0, 1) := by decide +kernel
theorem dX6_haveBehind_7 : decode cX6_haveBehind 7 = .ok (.getfield 19, 3) := by decide +kernel
theorem dX6_haveBehind_10 : decode cX6_haveBehind 10 = .ok (.iload_n 1, 1) := by decide +kernel
theorem dX6_haveBehind_11 : decode cX6_haveBehind 11 = .ok (.iaload, 1) := by decide +kernel
theorem dX6_haveBehind_12 : decode cX6_haveBehind 12 = .ok (.invokestatic 113, 3) := by decide +kernel
theorem dX6_haveBehind_15 : decode cX6_haveBehind 15 = .ok (.istore 4, 2) := by decide +kernel
theorem dX6_haveBehind_17 : decode cX6_haveBehind 17 = .ok (.iload_n 2, 1) := by decide +kernel
theorem dX6_haveBehind_18 : decode cX6_haveBehind 18 = .ok (.istore 5, 2) := by decide +kernel
theorem dX6_haveBehind_20 : decode cX6_haveBehind 20 = .ok (.iconst 0, 1) := by decide +kernel
theorem dX6_haveBehind_21 : decode cX6_haveBehind 21 = .ok (.istore 6, 2) := by decide +kernel
theorem dX6_haveBehind_23 : decode cX6_haveBehind 23 = .ok (.iload 6, 2) := by decide +kernel
theorem dX6_haveBehind_25 : decode cX6_haveBehind 25 = .ok (.iload_n 3, 1) := by decide +kernel
theorem dX6_haveBehind_26 : decode cX6_haveBehind 26 = .ok (.if_icmp .ge 53, 3) := by decide +kernel
theorem dX6_haveBehind_29 : decode cX6_haveBehind 29 = .ok (.iload 5, 2) := by decide +kernel
theorem dX6_haveBehind_31 : decode cX6_haveBehind 31 = .ok (.istore 7, 2) := by decide +kernel
theorem dX6_haveBehind_33 : decode cX6_haveBehind 33 = .ok (.iconst 0, 1) := by decide +kernel
theorem dX6_haveBehind_34 : decode cX6_haveBehind 34 = .ok (.istore 8, 2) := by decide +kernel
theorem dX6_haveBehind_36 : decode cX6_haveBehind 36 = .ok (.iload 8, 2) := by decide +kernel
theorem dX6_haveBehind_38 : decode cX6_haveBehind 38 = .ok (.aload_n 0, 1) := by decide +kernel
theorem dX6_haveBehind_39 : decode cX6_haveBehind 39 = .ok (.getfield 25, 3) := by decide +kernel
theorem dX6_haveBehind_42 : decode cX6_haveBehind 42 = .ok (.if_icmp .ge 31, 3) := by decide +kernel
theorem dX6_haveBehind_45 : decode cX6_haveBehind 45 = .ok (.iload 7, 2) := by decide +kernel
theorem dX6_haveBehind_47 : decode cX6_haveBehind 47 = .ok (.iload 8, 2) := by decide +kernel
theorem dX6_haveBehind_49 : decode cX6_haveBehind 49 = .ok (.invokestatic 80, 3) := by decide +kernel
theorem dX6_haveBehind_52 : decode cX6_haveBehind 52 = .ok (.ifCond .eq 15, 3) := by decide +kernel
theorem dX6_haveBehind_55 : decode cX6_haveBehind 55 = .ok (.aload_n 0, 1) := by decide +kernel
theorem dX6_haveBehind_56 : decode cX6_haveBehind 56 = .ok (.iload 8, 2) := by decide +kernel
theorem dX6_haveBehind_58 : decode cX6_haveBehind 58 = .ok (.iload 5, 2) := by decide +kernel
theorem dX6_haveBehind_60 : decode cX6_haveBehind 60 = .ok (.iload 4, 2) := by decide +kernel
theorem dX6_haveBehind_62 : decode cX6_haveBehind 62 = .ok (.invokevirtual 116, 3) := by decide +kernel
theorem dX6_haveBehind_65 : decode cX6_haveBehind 65 = .ok (.istore 5, 2) := by decide +kernel
theorem dX6_haveBehind_67 : decode cX6_haveBehind 67 = .ok (.iinc 8 1, 3) := by decide +kernel
theorem dX6_haveBehind_70 : decode cX6_haveBehind 70 = .ok (.goto (-34), 3) := by decide +kernel
theorem dX6_haveBehind_73 : decode cX6_haveBehind 73 = .ok (.iinc 6 1, 3) := by decide +kernel
theorem dX6_haveBehind_76 : decode cX6_haveBehind 76 = .ok (.goto (-53), 3) := by decide +kernel
theorem dX6_haveBehind_79 : decode cX6_haveBehind 79 = .ok (.iload 5, 2) := by decide +kernel
theorem dX6_haveBehind_81 : decode cX6_haveBehind 81 = .ok (.ireturn, 1) := by decide +kernel
theorem dX6_toldOn_0 : decode cX6_toldOn 0 = .ok (.iload_n 2, 1) := by decide +kernel
theorem dX6_toldOn_1 : decode cX6_toldOn 1 = .ok (.istore 4, 2) := by decide +kernel
theorem dX6_toldOn_3 : decode cX6_toldOn 3 = .ok (.iload_n 3, 1) := by decide +kernel
theorem dX6_toldOn_4 : decode cX6_toldOn 4 = .ok (.istore 5, 2) := by decide +kernel
theorem dX6_toldOn_6 : decode cX6_toldOn 6 = .ok (.iconst 0, 1) := by decide +kernel
theorem dX6_toldOn_7 : decode cX6_toldOn 7 = .ok (.istore 6, 2) := by decide +kernel
theorem dX6_toldOn_9 : decode cX6_toldOn 9 = .ok (.iload 6, 2) := by decide +kernel
theorem dX6_toldOn_11 : decode cX6_toldOn 11 = .ok (.aload_n 0, 1) := by decide +kernel
theorem dX6_toldOn_12 : decode cX6_toldOn 12 = .ok (.getfield 25, 3) := by decide +kernel
theorem dX6_toldOn_15 : decode cX6_toldOn 15 = .ok (.if_icmp .ge 45, 3) := by decide +kernel
theorem dX6_toldOn_18 : decode cX6_toldOn 18 = .ok (.iload 5, 2) := by decide +kernel
theorem dX6_toldOn_20 : decode cX6_toldOn 20 = .ok (.ifCond .le 40, 3) := by decide +kernel
theorem dX6_toldOn_23 : decode cX6_toldOn 23 = .ok (.aload_n 0, 1) := by decide +kernel
theorem dX6_toldOn_24 : decode cX6_toldOn 24 = .ok (.getfield 34, 3) := by decide +kernel
theorem dX6_toldOn_27 : decode cX6_toldOn 27 = .ok (.iload_n 1, 1) := by decide +kernel
theorem dX6_toldOn_28 : decode cX6_toldOn 28 = .ok (.iaload, 1) := by decide +kernel
theorem dX6_toldOn_29 : decode cX6_toldOn 29 = .ok (.iload 4, 2) := by decide +kernel
theorem dX6_toldOn_31 : decode cX6_toldOn 31 = .ok (.iconst (-1), 1) := by decide +kernel
theorem dX6_toldOn_32 : decode cX6_toldOn 32 = .ok (.ixor, 1) := by decide +kernel
theorem dX6_toldOn_33 : decode cX6_toldOn 33 = .ok (.iand, 1) := by decide +kernel
theorem dX6_toldOn_34 : decode cX6_toldOn 34 = .ok (.iload 6, 2) := by decide +kernel
theorem dX6_toldOn_36 : decode cX6_toldOn 36 = .ok (.invokestatic 80, 3) := by decide +kernel
theorem dX6_toldOn_39 : decode cX6_toldOn 39 = .ok (.ifCond .eq 15, 3) := by decide +kernel
theorem dX6_toldOn_42 : decode cX6_toldOn 42 = .ok (.iload 4, 2) := by decide +kernel
theorem dX6_toldOn_44 : decode cX6_toldOn 44 = .ok (.iconst 1, 1) := by decide +kernel
theorem dX6_toldOn_45 : decode cX6_toldOn 45 = .ok (.iload 6, 2) := by decide +kernel
theorem dX6_toldOn_47 : decode cX6_toldOn 47 = .ok (.ishl, 1) := by decide +kernel
theorem dX6_toldOn_48 : decode cX6_toldOn 48 = .ok (.ior, 1) := by decide +kernel
theorem dX6_toldOn_49 : decode cX6_toldOn 49 = .ok (.istore 4, 2) := by decide +kernel
theorem dX6_toldOn_51 : decode cX6_toldOn 51 = .ok (.iinc 5 (-1), 3) := by decide +kernel
theorem dX6_toldOn_54 : decode cX6_toldOn 54 = .ok (.iinc 6 1, 3) := by decide +kernel
theorem dX6_toldOn_57 : decode cX6_toldOn 57 = .ok (.goto (-48), 3) := by decide +kernel
theorem dX6_toldOn_60 : decode cX6_toldOn 60 = .ok (.iload 4, 2) := by decide +kernel
theorem dX6_toldOn_62 : decode cX6_toldOn 62 = .ok (.ireturn, 1) := by decide +kernel
theorem dX6_changed_0 : decode cX6_changed 0 = .ok (.iload_n 1, 1) := by decide +kernel
theorem dX6_changed_1 : decode cX6_changed 1 = .ok (.iload_n 2, 1) := by decide +kernel
theorem dX6_changed_2 : decode cX6_changed 2 = .ok (.if_icmp .ne 7, 3) := by decide +kernel
theorem dX6_changed_5 : decode cX6_changed 5 = .ok (.lload_n 3, 1) := by decide +kernel
theorem dX6_changed_6 : decode cX6_changed 6 = .ok (.goto 20, 3) := by decide +kernel
theorem dX6_changed_9 : decode cX6_changed 9 = .ok (.lload_n 3, 1) := by decide +kernel
theorem dX6_changed_10 : decode cX6_changed 10 = .ok (.aload_n 0, 1) := by decide +kernel
theorem dX6_changed_11 : decode cX6_changed 11 = .ok (.getfield 43, 3) := by decide +kernel
theorem dX6_changed_14 : decode cX6_changed 14 = .ok (.iload_n 1, 1) := by decide +kernel
theorem dX6_changed_15 : decode cX6_changed 15 = .ok (.iconst 4, 1) := by decide +kernel
theorem dX6_changed_16 : decode cX6_changed 16 = .ok (.imul, 1) := by decide +kernel
theorem dX6_changed_17 : decode cX6_changed 17 = .ok (.iload_n 2, 1) := by decide +kernel
theorem dX6_changed_18 : decode cX6_changed 18 = .ok (.iadd, 1) := by decide +kernel
theorem dX6_changed_19 : decode cX6_changed 19 = .ok (.iaload, 1) := by decide +kernel
theorem dX6_changed_20 : decode cX6_changed 20 = .ok (.i2l, 1) := by decide +kernel
theorem dX6_changed_21 : decode cX6_changed 21 = .ok (.lmul, 1) := by decide +kernel
theorem dX6_changed_22 : decode cX6_changed 22 = .ok (.ldc2_w 120, 3) := by decide +kernel
theorem dX6_changed_25 : decode cX6_changed 25 = .ok (.ldiv, 1) := by decide +kernel
theorem dX6_changed_26 : decode cX6_changed 26 = .ok (.lreturn, 1) := by decide +kernel
theorem dX7_init_0 : decode cX7_init 0 = .ok (.aload_n 0, 1) := by decide +kernel
theorem dX7_init_1 : decode cX7_init 1 = .ok (.invokespecial 1, 3) := by decide +kernel
theorem dX7_init_4 : decode cX7_init 4 = .ok (.aload_n 0, 1) := by decide +kernel
theorem dX7_init_5 : decode cX7_init 5 = .ok (.new 7, 3) := by decide +kernel
theorem dX7_init_8 : decode cX7_init 8 = .ok (.dup, 1) := by decide +kernel
theorem dX7_init_9 : decode cX7_init 9 = .ok (.invokespecial 9, 3) := by decide +kernel
theorem dX7_init_12 : decode cX7_init 12 = .ok (.putfield 10, 3) := by decide +kernel
theorem dX7_init_15 : decode cX7_init 15 = .ok (.aload_n 0, 1) := by decide +kernel
theorem dX7_init_16 : decode cX7_init 16 = .ok (.new 16, 3) := by decide +kernel
theorem dX7_init_19 : decode cX7_init 19 = .ok (.dup, 1) := by decide +kernel
theorem dX7_init_20 : decode cX7_init 20 = .ok (.invokespecial 18, 3) := by decide +kernel
theorem dX7_init_23 : decode cX7_init 23 = .ok (.putfield 19, 3) := by decide +kernel
theorem dX7_init_26 : decode cX7_init 26 = .ok (.aload_n 0, 1) := by decide +kernel
theorem dX7_init_27 : decode cX7_init 27 = .ok (.new 23, 3) := by decide +kernel
theorem dX7_init_30 : decode cX7_init 30 = .ok (.dup, 1) := by decide +kernel
theorem dX7_init_31 : decode cX7_init 31 = .ok (.aload_n 0, 1) := by decide +kernel
theorem dX7_init_32 : decode cX7_init 32 = .ok (.getfield 10, 3) := by decide +kernel
theorem dX7_init_35 : decode cX7_init 35 = .ok (.invokespecial 25, 3) := by decide +kernel
theorem dX7_init_38 : decode cX7_init 38 = .ok (.putfield 28, 3) := by decide +kernel
theorem dX7_init_41 : decode cX7_init 41 = .ok (.aload_n 0, 1) := by decide +kernel
theorem dX7_init_42 : decode cX7_init 42 = .ok (.new 23, 3) := by decide +kernel
theorem dX7_init_45 : decode cX7_init 45 = .ok (.dup, 1) := by decide +kernel
theorem dX7_init_46 : decode cX7_init 46 = .ok (.aload_n 0, 1) := by decide +kernel
theorem dX7_init_47 : decode cX7_init 47 = .ok (.getfield 10, 3) := by decide +kernel
theorem dX7_init_50 : decode cX7_init 50 = .ok (.invokespecial 25, 3) := by decide +kernel
theorem dX7_init_53 : decode cX7_init 53 = .ok (.putfield 32, 3) := by decide +kernel
theorem dX7_init_56 : decode cX7_init 56 = .ok (.aload_n 0, 1) := by decide +kernel
theorem dX7_init_57 : decode cX7_init 57 = .ok (.new 23, 3) := by decide +kernel
theorem dX7_init_60 : decode cX7_init 60 = .ok (.dup, 1) := by decide +kernel
theorem dX7_init_61 : decode cX7_init 61 = .ok (.aload_n 0, 1) := by decide +kernel
theorem dX7_init_62 : decode cX7_init 62 = .ok (.getfield 10, 3) := by decide +kernel
theorem dX7_init_65 : decode cX7_init 65 = .ok (.invokespecial 25, 3) := by decide +kernel
theorem dX7_init_68 : decode cX7_init 68 = .ok (.putfield 35, 3) := by decide +kernel
theorem dX7_init_71 : decode cX7_init 71 = .ok (.aload_n 0, 1) := by decide +kernel
theorem dX7_init_72 : decode cX7_init 72 = .ok (.iconst 0, 1) := by decide +kernel
theorem dX7_init_73 : decode cX7_init 73 = .ok (.putfield 38, 3) := by decide +kernel
theorem dX7_init_76 : decode cX7_init 76 = .ok (.aload_n 0, 1) := by decide +kernel
theorem dX7_init_77 : decode cX7_init 77 = .ok (.new 42, 3) := by decide +kernel
theorem dX7_init_80 : decode cX7_init 80 = .ok (.dup, 1) := by decide +kernel
theorem dX7_init_81 : decode cX7_init 81 = .ok (.aload_n 0, 1) := by decide +kernel
theorem dX7_init_82 : decode cX7_init 82 = .ok (.getfield 32, 3) := by decide +kernel
theorem dX7_init_85 : decode cX7_init 85 = .ok (.invokespecial 44, 3) := by decide +kernel
theorem dX7_init_88 : decode cX7_init 88 = .ok (.putfield 47, 3) := by decide +kernel
theorem dX7_init_91 : decode cX7_init 91 = .ok (.aload_n 0, 1) := by decide +kernel
theorem dX7_init_92 : decode cX7_init 92 = .ok (.new 51, 3) := by decide +kernel
theorem dX7_init_95 : decode cX7_init 95 = .ok (.dup, 1) := by decide +kernel
theorem dX7_init_96 : decode cX7_init 96 = .ok (.aload_n 0, 1) := by decide +kernel
theorem dX7_init_97 : decode cX7_init 97 = .ok (.getfield 28, 3) := by decide +kernel
theorem dX7_init_100 : decode cX7_init 100 = .ok (.invokespecial 53, 3) := by decide +kernel
theorem dX7_init_103 : decode cX7_init 103 = .ok (.putfield 54, 3) := by decide +kernel
theorem dX7_init_106 : decode cX7_init 106 = .ok (.aload_n 0, 1) := by decide +kernel
theorem dX7_init_107 : decode cX7_init 107 = .ok (.new 58, 3) := by decide +kernel
theorem dX7_init_110 : decode cX7_init 110 = .ok (.dup, 1) := by decide +kernel
theorem dX7_init_111 : decode cX7_init 111 = .ok (.invokespecial 60, 3) := by decide +kernel
theorem dX7_init_114 : decode cX7_init 114 = .ok (.putfield 61, 3) := by decide +kernel
theorem dX7_init_117 : decode cX7_init 117 = .ok (.iconst 0, 1) := by decide +kernel
theorem dX7_init_118 : decode cX7_init 118 = .ok (.istore_n 1, 1) := by decide +kernel
theorem dX7_init_119 : decode cX7_init 119 = .ok (.iload_n 1, 1) := by decide +kernel
theorem dX7_init_120 : decode cX7_init 120 = .ok (.ldc 65, 2) := by decide +kernel
theorem dX7_init_122 : decode cX7_init 122 = .ok (.invokevirtual 67, 3) := by decide +kernel
theorem dX7_init_125 : decode cX7_init 125 = .ok (.if_icmp .ge 22, 3) := by decide +kernel
theorem dX7_init_128 : decode cX7_init 128 = .ok (.aload_n 0, 1) := by decide +kernel
theorem dX7_init_129 : decode cX7_init 129 = .ok (.getfield 19, 3) := by decide +kernel
theorem dX7_init_132 : decode cX7_init 132 = .ok (.ldc 65, 2) := by decide +kernel
theorem dX7_init_134 : decode cX7_init 134 = .ok (.iload_n 1, 1) := by decide +kernel
theorem dX7_init_135 : decode cX7_init 135 = .ok (.invokevirtual 73, 3) := by decide +kernel
theorem dX7_init_138 : decode cX7_init 138 = .ok (.invokevirtual 77, 3) := by decide +kernel
theorem dX7_init_141 : decode cX7_init 141 = .ok (.iinc 1 1, 3) := by decide +kernel
theorem dX7_init_144 : decode cX7_init 144 = .ok (.goto (-25), 3) := by decide +kernel
theorem dX7_init_147 : decode cX7_init 147 = .ok (.aload_n 0, 1) := by decide +kernel
theorem dX7_init_148 : decode cX7_init 148 = .ok (.getfield 19, 3) := by decide +kernel
theorem dX7_init_151 : decode cX7_init 151 = .ok (.invokevirtual 81, 3) := by decide +kernel
theorem dX7_init_154 : decode cX7_init 154 = .ok (.pop, 1) := by decide +kernel
theorem dX7_init_155 : decode cX7_init 155 = .ok (.aload_n 0, 1) := by decide +kernel
theorem dX7_init_156 : decode cX7_init 156 = .ok (.getfield 10, 3) := by decide +kernel
theorem dX7_init_159 : decode cX7_init 159 = .ok (.aload_n 0, 1) := by decide +kernel
theorem dX7_init_160 : decode cX7_init 160 = .ok (.getfield 19, 3) := by decide +kernel
theorem dX7_init_163 : decode cX7_init 163 = .ok (.getfield 85, 3) := by decide +kernel
theorem dX7_init_166 : decode cX7_init 166 = .ok (.aload_n 0, 1) := by decide +kernel
theorem dX7_init_167 : decode cX7_init 167 = .ok (.getfield 19, 3) := by decide +kernel
theorem dX7_init_170 : decode cX7_init 170 = .ok (.getfield 89, 3) := by decide +kernel
theorem dX7_init_173 : decode cX7_init 173 = .ok (.invokevirtual 92, 3) := by decide +kernel
theorem dX7_init_176 : decode cX7_init 176 = .ok (.pop, 1) := by decide +kernel
theorem dX7_init_177 : decode cX7_init 177 = .ok (.aload_n 0, 1) := by decide +kernel
theorem dX7_init_178 : decode cX7_init 178 = .ok (.getfield 19, 3) := by decide +kernel
theorem dX7_init_181 : decode cX7_init 181 = .ok (.invokevirtual 96, 3) := by decide +kernel
theorem dX7_init_184 : decode cX7_init 184 = .ok (.return_, 1) := by decide +kernel
theorem dX7_count_0 : decode cX7_count 0 = .ok (.iload_n 1, 1) := by decide +kernel
theorem dX7_count_1 : decode cX7_count 1 = .ok (.tableswitch 87 0 5 #[39, 47, 55, 63, 71, 79], 39) := by decide +kernel
theorem dX7_count_40 : decode cX7_count 40 = .ok (.aload_n 0, 1) := by decide +kernel
theorem dX7_count_41 : decode cX7_count 41 = .ok (.getfield 28, 3) := by decide +kernel
theorem dX7_count_44 : decode cX7_count 44 = .ok (.getfield 99, 3) := by decide +kernel
theorem dX7_count_47 : decode cX7_count 47 = .ok (.ireturn, 1) := by decide +kernel
theorem dX7_count_48 : decode cX7_count 48 = .ok (.aload_n 0, 1) := by decide +kernel
theorem dX7_count_49 : decode cX7_count 49 = .ok (.getfield 28, 3) := by decide +kernel
theorem dX7_count_52 : decode cX7_count 52 = .ok (.getfield 103, 3) := by decide +kernel
theorem dX7_count_55 : decode cX7_count 55 = .ok (.ireturn, 1) := by decide +kernel
theorem dX7_count_56 : decode cX7_count 56 = .ok (.aload_n 0, 1) := by decide +kernel
theorem dX7_count_57 : decode cX7_count 57 = .ok (.getfield 28, 3) := by decide +kernel
theorem dX7_count_60 : decode cX7_count 60 = .ok (.getfield 106, 3) := by decide +kernel
theorem dX7_count_63 : decode cX7_count 63 = .ok (.ireturn, 1) := by decide +kernel
theorem dX7_count_64 : decode cX7_count 64 = .ok (.aload_n 0, 1) := by decide +kernel
theorem dX7_count_65 : decode cX7_count 65 = .ok (.getfield 10, 3) := by decide +kernel
theorem dX7_count_68 : decode cX7_count 68 = .ok (.getfield 109, 3) := by decide +kernel
theorem dX7_count_71 : decode cX7_count 71 = .ok (.ireturn, 1) := by decide +kernel
theorem dX7_count_72 : decode cX7_count 72 = .ok (.aload_n 0, 1) := by decide +kernel
theorem dX7_count_73 : decode cX7_count 73 = .ok (.getfield 28, 3) := by decide +kernel
theorem dX7_count_76 : decode cX7_count 76 = .ok (.getfield 112, 3) := by decide +kernel
theorem dX7_count_79 : decode cX7_count 79 = .ok (.ireturn, 1) := by decide +kernel
theorem dX7_count_80 : decode cX7_count 80 = .ok (.aload_n 0, 1) := by decide +kernel
theorem dX7_count_81 : decode cX7_count 81 = .ok (.getfield 19, 3) := by decide +kernel
theorem dX7_count_84 : decode cX7_count 84 = .ok (.getfield 115, 3) := by decide +kernel
theorem dX7_count_87 : decode cX7_count 87 = .ok (.ireturn, 1) := by decide +kernel
theorem dX7_count_88 : decode cX7_count 88 = .ok (.bipush (-2), 2) := by decide +kernel
theorem dX7_count_90 : decode cX7_count 90 = .ok (.ireturn, 1) := by decide +kernel
theorem dX7_feed_0 : decode cX7_feed 0 = .ok (.iload_n 1, 1) := by decide +kernel
theorem dX7_feed_1 : decode cX7_feed 1 = .ok (.iconst 1, 1) := by decide +kernel
theorem dX7_feed_2 : decode cX7_feed 2 = .ok (.iconst 5, 1) := by decide +kernel
theorem dX7_feed_3 : decode cX7_feed 3 = .ok (.invokestatic 116, 3) := by decide +kernel
theorem dX7_feed_6 : decode cX7_feed 6 = .ok (.ifCond .eq 41, 3) := by decide +kernel
theorem dX7_feed_9 : decode cX7_feed 9 = .ok (.iload_n 2, 1) := by decide +kernel
theorem dX7_feed_10 : decode cX7_feed 10 = .ok (.invokestatic 120, 3) := by decide +kernel
theorem dX7_feed_13 : decode cX7_feed 13 = .ok (.ifCond .eq 34, 3) := by decide +kernel
theorem dX7_feed_16 : decode cX7_feed 16 = .ok (.iload_n 3, 1) := by decide +kernel
theorem dX7_feed_17 : decode cX7_feed 17 = .ok (.invokestatic 120, 3) := by decide +kernel
theorem dX7_feed_20 : decode cX7_feed 20 = .ok (.ifCond .eq 27, 3) := by decide +kernel
theorem dX7_feed_23 : decode cX7_feed 23 = .ok (.iload 4, 2) := by decide +kernel
theorem dX7_feed_25 : decode cX7_feed 25 = .ok (.invokestatic 120, 3) := by decide +kernel
theorem dX7_feed_28 : decode cX7_feed 28 = .ok (.ifCond .eq 19, 3) := by decide +kernel
theorem dX7_feed_31 : decode cX7_feed 31 = .ok (.iload 5, 2) := by decide +kernel
theorem dX7_feed_33 : decode cX7_feed 33 = .ok (.invokestatic 120, 3) := by decide +kernel
theorem dX7_feed_36 : decode cX7_feed 36 = .ok (.ifCond .eq 11, 3) := by decide +kernel
theorem dX7_feed_39 : decode cX7_feed 39 = .ok (.iload 6, 2) := by decide +kernel
theorem dX7_feed_41 : decode cX7_feed 41 = .ok (.invokestatic 120, 3) := by decide +kernel
theorem dX7_feed_44 : decode cX7_feed 44 = .ok (.ifCond .ne 6, 3) := by decide +kernel
theorem dX7_feed_47 : decode cX7_feed 47 = .ok (.bipush (-2), 2) := by decide +kernel
theorem dX7_feed_49 : decode cX7_feed 49 = .ok (.ireturn, 1) := by decide +kernel
theorem dX7_feed_50 : decode cX7_feed 50 = .ok (.aload_n 0, 1) := by decide +kernel
theorem dX7_feed_51 : decode cX7_feed 51 = .ok (.getfield 19, 3) := by decide +kernel
theorem dX7_feed_54 : decode cX7_feed 54 = .ok (.getfield 115, 3) := by decide +kernel
theorem dX7_feed_57 : decode cX7_feed 57 = .ok (.iload_n 1, 1) := by decide +kernel
theorem dX7_feed_58 : decode cX7_feed 58 = .ok (.iadd, 1) := by decide +kernel
theorem dX7_feed_59 : decode cX7_feed 59 = .ok (.sipush 160, 3) := by decide +kernel
theorem dX7_feed_62 : decode cX7_feed 62 = .ok (.if_icmp .le 6, 3) := by decide +kernel
theorem dX7_feed_65 : decode cX7_feed 65 = .ok (.bipush (-4), 2) := by decide +kernel
theorem dX7_feed_67 : decode cX7_feed 67 = .ok (.ireturn, 1) := by decide +kernel
theorem dX7_feed_68 : decode cX7_feed 68 = .ok (.aload_n 0, 1) := by decide +kernel
theorem dX7_feed_69 : decode cX7_feed 69 = .ok (.getfield 19, 3) := by decide +kernel
theorem dX7_feed_72 : decode cX7_feed 72 = .ok (.iload_n 2, 1) := by decide +kernel
theorem dX7_feed_73 : decode cX7_feed 73 = .ok (.invokevirtual 77, 3) := by decide +kernel
theorem dX7_feed_76 : decode cX7_feed 76 = .ok (.iload_n 1, 1) := by decide +kernel
theorem dX7_feed_77 : decode cX7_feed 77 = .ok (.iconst 1, 1) := by decide +kernel
theorem dX7_feed_78 : decode cX7_feed 78 = .ok (.if_icmp .le 11, 3) := by decide +kernel
theorem dX7_feed_81 : decode cX7_feed 81 = .ok (.aload_n 0, 1) := by decide +kernel
theorem dX7_feed_82 : decode cX7_feed 82 = .ok (.getfield 19, 3) := by decide +kernel
theorem dX7_feed_85 : decode cX7_feed 85 = .ok (.iload_n 3, 1) := by decide +kernel
theorem dX7_feed_86 : decode cX7_feed 86 = .ok (.invokevirtual 77, 3) := by decide +kernel
theorem dX7_feed_89 : decode cX7_feed 89 = .ok (.iload_n 1, 1) := by decide +kernel
theorem dX7_feed_90 : decode cX7_feed 90 = .ok (.iconst 2, 1) := by decide +kernel
theorem dX7_feed_91 : decode cX7_feed 91 = .ok (.if_icmp .le 12, 3) := by decide +kernel
theorem dX7_feed_94 : decode cX7_feed 94 = .ok (.aload_n 0, 1) := by decide +kernel
theorem dX7_feed_95 : decode cX7_feed 95 = .ok (.getfield 19, 3) := by decide +kernel
theorem dX7_feed_98 : decode cX7_feed 98 = .ok (.iload 4, 2) := by decide +kernel
theorem dX7_feed_100 : decode cX7_feed 100 = .ok (.invokevirtual 77, 3) := by decide +kernel
theorem dX7_feed_103 : decode cX7_feed 103 = .ok (.iload_n 1, 1) := by decide +kernel
theorem dX7_feed_104 : decode cX7_feed 104 = .ok (.iconst 3, 1) := by decide +kernel
theorem dX7_feed_105 : decode cX7_feed 105 = .ok (.if_icmp .le 12, 3) := by decide +kernel
theorem dX7_feed_108 : decode cX7_feed 108 = .ok (.aload_n 0, 1) := by decide +kernel
theorem dX7_feed_109 : decode cX7_feed 109 = .ok (.getfield 19, 3) := by decide +kernel
theorem dX7_feed_112 : decode cX7_feed 112 = .ok (.iload 5, 2) := by decide +kernel
theorem dX7_feed_114 : decode cX7_feed 114 = .ok (.invokevirtual 77, 3) := by decide +kernel
theorem dX7_feed_117 : decode cX7_feed 117 = .ok (.iload_n 1, 1) := by decide +kernel
theorem dX7_feed_118 : decode cX7_feed 118 = .ok (.iconst 4, 1) := by decide +kernel
theorem dX7_feed_119 : decode cX7_feed 119 = .ok (.if_icmp .le 12, 3) := by decide +kernel
theorem dX7_feed_122 : decode cX7_feed 122 = .ok (.aload_n 0, 1) := by decide +kernel
theorem dX7_feed_123 : decode cX7_feed 123 = .ok (.getfield 19, 3) := by decide +kernel
theorem dX7_feed_126 : decode cX7_feed 126 = .ok (.iload 6, 2) := by decide +kernel
theorem dX7_feed_128 : decode cX7_feed 128 = .ok (.invokevirtual 77, 3) := by decide +kernel
theorem dX7_feed_131 : decode cX7_feed 131 = .ok (.aload_n 0, 1) := by decide +kernel
theorem dX7_feed_132 : decode cX7_feed 132 = .ok (.getfield 19, 3) := by decide +kernel
theorem dX7_feed_135 : decode cX7_feed 135 = .ok (.getfield 115, 3) := by decide +kernel
theorem dX7_feed_138 : decode cX7_feed 138 = .ok (.ireturn, 1) := by decide +kernel
theorem dX7_text_0 : decode cX7_text 0 = .ok (.aload_n 0, 1) := by decide +kernel
theorem dX7_text_1 : decode cX7_text 1 = .ok (.getfield 10, 3) := by decide +kernel
theorem dX7_text_4 : decode cX7_text 4 = .ok (.getfield 109, 3) := by decide +kernel
theorem dX7_text_7 : decode cX7_text 7 = .ok (.bipush 6, 2) := by decide +kernel
theorem dX7_text_9 : decode cX7_text 9 = .ok (.if_icmp .lt 6, 3) := by decide +kernel
theorem dX7_text_12 : decode cX7_text 12 = .ok (.bipush (-4), 2) := by decide +kernel
theorem dX7_text_14 : decode cX7_text 14 = .ok (.ireturn, 1) := by decide +kernel
theorem dX7_text_15 : decode cX7_text 15 = .ok (.aload_n 0, 1) := by decide +kernel
theorem dX7_text_16 : decode cX7_text 16 = .ok (.getfield 19, 3) := by decide +kernel
theorem dX7_text_19 : decode cX7_text 19 = .ok (.invokevirtual 81, 3) := by decide +kernel
theorem dX7_text_22 : decode cX7_text 22 = .ok (.istore_n 1, 1) := by decide +kernel
theorem dX7_text_23 : decode cX7_text 23 = .ok (.aload_n 0, 1) := by decide +kernel
theorem dX7_text_24 : decode cX7_text 24 = .ok (.getfield 19, 3) := by decide +kernel
theorem dX7_text_27 : decode cX7_text 27 = .ok (.invokevirtual 124, 3) := by decide +kernel
