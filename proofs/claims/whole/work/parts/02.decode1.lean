theorem dX7_text_30 : decode cX7_text 30 = .ok (.istore_n 2, 1) := by decide +kernel
theorem dX7_text_31 : decode cX7_text 31 = .ok (.aload_n 0, 1) := by decide +kernel
theorem dX7_text_32 : decode cX7_text 32 = .ok (.getfield 19, 3) := by decide +kernel
theorem dX7_text_35 : decode cX7_text 35 = .ok (.invokevirtual 96, 3) := by decide +kernel
theorem dX7_text_38 : decode cX7_text 38 = .ok (.iload_n 1, 1) := by decide +kernel
theorem dX7_text_39 : decode cX7_text 39 = .ok (.ifCond .ne 8, 3) := by decide +kernel
theorem dX7_text_42 : decode cX7_text 42 = .ok (.bipush (-100), 2) := by decide +kernel
theorem dX7_text_44 : decode cX7_text 44 = .ok (.iload_n 2, 1) := by decide +kernel
theorem dX7_text_45 : decode cX7_text 45 = .ok (.isub, 1) := by decide +kernel
theorem dX7_text_46 : decode cX7_text 46 = .ok (.ireturn, 1) := by decide +kernel
theorem dX7_text_47 : decode cX7_text 47 = .ok (.aload_n 0, 1) := by decide +kernel
theorem dX7_text_48 : decode cX7_text 48 = .ok (.getfield 10, 3) := by decide +kernel
theorem dX7_text_51 : decode cX7_text 51 = .ok (.aload_n 0, 1) := by decide +kernel
theorem dX7_text_52 : decode cX7_text 52 = .ok (.getfield 19, 3) := by decide +kernel
theorem dX7_text_55 : decode cX7_text 55 = .ok (.getfield 85, 3) := by decide +kernel
theorem dX7_text_58 : decode cX7_text 58 = .ok (.aload_n 0, 1) := by decide +kernel
theorem dX7_text_59 : decode cX7_text 59 = .ok (.getfield 19, 3) := by decide +kernel
theorem dX7_text_62 : decode cX7_text 62 = .ok (.getfield 89, 3) := by decide +kernel
theorem dX7_text_65 : decode cX7_text 65 = .ok (.invokevirtual 92, 3) := by decide +kernel
theorem dX7_text_68 : decode cX7_text 68 = .ok (.ireturn, 1) := by decide +kernel
theorem dX7_force_0 : decode cX7_force 0 = .ok (.iload_n 1, 1) := by decide +kernel
theorem dX7_force_1 : decode cX7_force 1 = .ok (.iconst 0, 1) := by decide +kernel
theorem dX7_force_2 : decode cX7_force 2 = .ok (.aload_n 0, 1) := by decide +kernel
theorem dX7_force_3 : decode cX7_force 3 = .ok (.getfield 10, 3) := by decide +kernel
theorem dX7_force_6 : decode cX7_force 6 = .ok (.getfield 109, 3) := by decide +kernel
theorem dX7_force_9 : decode cX7_force 9 = .ok (.iconst 1, 1) := by decide +kernel
theorem dX7_force_10 : decode cX7_force 10 = .ok (.isub, 1) := by decide +kernel
theorem dX7_force_11 : decode cX7_force 11 = .ok (.invokestatic 116, 3) := by decide +kernel
theorem dX7_force_14 : decode cX7_force 14 = .ok (.ifCond .ne 6, 3) := by decide +kernel
theorem dX7_force_17 : decode cX7_force 17 = .ok (.bipush (-2), 2) := by decide +kernel
theorem dX7_force_19 : decode cX7_force 19 = .ok (.ireturn, 1) := by decide +kernel
theorem dX7_force_20 : decode cX7_force 20 = .ok (.aload_n 0, 1) := by decide +kernel
theorem dX7_force_21 : decode cX7_force 21 = .ok (.getfield 28, 3) := by decide +kernel
theorem dX7_force_24 : decode cX7_force 24 = .ok (.getfield 112, 3) := by decide +kernel
theorem dX7_force_27 : decode cX7_force 27 = .ok (.istore_n 2, 1) := by decide +kernel
theorem dX7_force_28 : decode cX7_force 28 = .ok (.aload_n 0, 1) := by decide +kernel
theorem dX7_force_29 : decode cX7_force 29 = .ok (.getfield 28, 3) := by decide +kernel
theorem dX7_force_32 : decode cX7_force 32 = .ok (.iload_n 1, 1) := by decide +kernel
theorem dX7_force_33 : decode cX7_force 33 = .ok (.putfield 112, 3) := by decide +kernel
theorem dX7_force_36 : decode cX7_force 36 = .ok (.iload_n 2, 1) := by decide +kernel
theorem dX7_force_37 : decode cX7_force 37 = .ok (.ireturn, 1) := by decide +kernel
theorem dX7_asks_0 : decode cX7_asks 0 = .ok (.iload_n 1, 1) := by decide +kernel
theorem dX7_asks_1 : decode cX7_asks 1 = .ok (.iconst 0, 1) := by decide +kernel
theorem dX7_asks_2 : decode cX7_asks 2 = .ok (.iconst 2, 1) := by decide +kernel
theorem dX7_asks_3 : decode cX7_asks 3 = .ok (.invokestatic 116, 3) := by decide +kernel
theorem dX7_asks_6 : decode cX7_asks 6 = .ok (.ifCond .eq 35, 3) := by decide +kernel
theorem dX7_asks_9 : decode cX7_asks 9 = .ok (.iload_n 2, 1) := by decide +kernel
theorem dX7_asks_10 : decode cX7_asks 10 = .ok (.iconst 0, 1) := by decide +kernel
theorem dX7_asks_11 : decode cX7_asks 11 = .ok (.bipush 99, 2) := by decide +kernel
theorem dX7_asks_13 : decode cX7_asks 13 = .ok (.invokestatic 116, 3) := by decide +kernel
theorem dX7_asks_16 : decode cX7_asks 16 = .ok (.ifCond .eq 25, 3) := by decide +kernel
theorem dX7_asks_19 : decode cX7_asks 19 = .ok (.aload_n 0, 1) := by decide +kernel
theorem dX7_asks_20 : decode cX7_asks 20 = .ok (.getfield 28, 3) := by decide +kernel
theorem dX7_asks_23 : decode cX7_asks 23 = .ok (.iload_n 3, 1) := by decide +kernel
theorem dX7_asks_24 : decode cX7_asks 24 = .ok (.invokevirtual 127, 3) := by decide +kernel
theorem dX7_asks_27 : decode cX7_asks 27 = .ok (.ifCond .eq 14, 3) := by decide +kernel
theorem dX7_asks_30 : decode cX7_asks 30 = .ok (.iload 4, 2) := by decide +kernel
theorem dX7_asks_32 : decode cX7_asks 32 = .ok (.iconst 0, 1) := by decide +kernel
theorem dX7_asks_33 : decode cX7_asks 33 = .ok (.bipush 9, 2) := by decide +kernel
theorem dX7_asks_35 : decode cX7_asks 35 = .ok (.invokestatic 116, 3) := by decide +kernel
theorem dX7_asks_38 : decode cX7_asks 38 = .ok (.ifCond .ne 6, 3) := by decide +kernel
theorem dX7_asks_41 : decode cX7_asks 41 = .ok (.bipush (-2), 2) := by decide +kernel
theorem dX7_asks_43 : decode cX7_asks 43 = .ok (.ireturn, 1) := by decide +kernel
theorem dX7_asks_44 : decode cX7_asks 44 = .ok (.aload_n 0, 1) := by decide +kernel
theorem dX7_asks_45 : decode cX7_asks 45 = .ok (.getfield 28, 3) := by decide +kernel
theorem dX7_asks_48 : decode cX7_asks 48 = .ok (.iload_n 1, 1) := by decide +kernel
theorem dX7_asks_49 : decode cX7_asks 49 = .ok (.iload_n 2, 1) := by decide +kernel
theorem dX7_asks_50 : decode cX7_asks 50 = .ok (.iload_n 3, 1) := by decide +kernel
theorem dX7_asks_51 : decode cX7_asks 51 = .ok (.iload 4, 2) := by decide +kernel
theorem dX7_asks_53 : decode cX7_asks 53 = .ok (.invokevirtual 130, 3) := by decide +kernel
theorem dX7_asks_56 : decode cX7_asks 56 = .ok (.ireturn, 1) := by decide +kernel
theorem dX7_joke_0 : decode cX7_joke 0 = .ok (.aload_n 0, 1) := by decide +kernel
theorem dX7_joke_1 : decode cX7_joke 1 = .ok (.getfield 28, 3) := by decide +kernel
theorem dX7_joke_4 : decode cX7_joke 4 = .ok (.iload_n 1, 1) := by decide +kernel
theorem dX7_joke_5 : decode cX7_joke 5 = .ok (.iload_n 2, 1) := by decide +kernel
theorem dX7_joke_6 : decode cX7_joke 6 = .ok (.invokevirtual 134, 3) := by decide +kernel
theorem dX7_joke_9 : decode cX7_joke 9 = .ok (.ireturn, 1) := by decide +kernel
theorem dX7_told_0 : decode cX7_told 0 = .ok (.aload_n 0, 1) := by decide +kernel
theorem dX7_told_1 : decode cX7_told 1 = .ok (.getfield 28, 3) := by decide +kernel
theorem dX7_told_4 : decode cX7_told 4 = .ok (.iload_n 1, 1) := by decide +kernel
theorem dX7_told_5 : decode cX7_told 5 = .ok (.invokevirtual 138, 3) := by decide +kernel
theorem dX7_told_8 : decode cX7_told 8 = .ok (.ifCond .ne 6, 3) := by decide +kernel
theorem dX7_told_11 : decode cX7_told 11 = .ok (.bipush (-5), 2) := by decide +kernel
theorem dX7_told_13 : decode cX7_told 13 = .ok (.ireturn, 1) := by decide +kernel
theorem dX7_told_14 : decode cX7_told 14 = .ok (.iload_n 2, 1) := by decide +kernel
theorem dX7_told_15 : decode cX7_told 15 = .ok (.tableswitch 81 0 3 #[29, 39, 49, 59], 29) := by decide +kernel
theorem dX7_told_44 : decode cX7_told 44 = .ok (.aload_n 0, 1) := by decide +kernel
theorem dX7_told_45 : decode cX7_told 45 = .ok (.getfield 28, 3) := by decide +kernel
theorem dX7_told_48 : decode cX7_told 48 = .ok (.getfield 141, 3) := by decide +kernel
theorem dX7_told_51 : decode cX7_told 51 = .ok (.iload_n 1, 1) := by decide +kernel
theorem dX7_told_52 : decode cX7_told 52 = .ok (.iaload, 1) := by decide +kernel
theorem dX7_told_53 : decode cX7_told 53 = .ok (.ireturn, 1) := by decide +kernel
theorem dX7_told_54 : decode cX7_told 54 = .ok (.aload_n 0, 1) := by decide +kernel
theorem dX7_told_55 : decode cX7_told 55 = .ok (.getfield 28, 3) := by decide +kernel
theorem dX7_told_58 : decode cX7_told 58 = .ok (.getfield 144, 3) := by decide +kernel
theorem dX7_told_61 : decode cX7_told 61 = .ok (.iload_n 1, 1) := by decide +kernel
theorem dX7_told_62 : decode cX7_told 62 = .ok (.iaload, 1) := by decide +kernel
theorem dX7_told_63 : decode cX7_told 63 = .ok (.ireturn, 1) := by decide +kernel
theorem dX7_told_64 : decode cX7_told 64 = .ok (.aload_n 0, 1) := by decide +kernel
theorem dX7_told_65 : decode cX7_told 65 = .ok (.getfield 28, 3) := by decide +kernel
theorem dX7_told_68 : decode cX7_told 68 = .ok (.getfield 147, 3) := by decide +kernel
theorem dX7_told_71 : decode cX7_told 71 = .ok (.iload_n 1, 1) := by decide +kernel
theorem dX7_told_72 : decode cX7_told 72 = .ok (.iaload, 1) := by decide +kernel
theorem dX7_told_73 : decode cX7_told 73 = .ok (.ireturn, 1) := by decide +kernel
theorem dX7_told_74 : decode cX7_told 74 = .ok (.aload_n 0, 1) := by decide +kernel
theorem dX7_told_75 : decode cX7_told 75 = .ok (.getfield 28, 3) := by decide +kernel
theorem dX7_told_78 : decode cX7_told 78 = .ok (.getfield 141, 3) := by decide +kernel
theorem dX7_told_81 : decode cX7_told 81 = .ok (.iload_n 1, 1) := by decide +kernel
theorem dX7_told_82 : decode cX7_told 82 = .ok (.iaload, 1) := by decide +kernel
theorem dX7_told_83 : decode cX7_told 83 = .ok (.aload_n 0, 1) := by decide +kernel
theorem dX7_told_84 : decode cX7_told 84 = .ok (.getfield 28, 3) := by decide +kernel
theorem dX7_told_87 : decode cX7_told 87 = .ok (.getfield 144, 3) := by decide +kernel
theorem dX7_told_90 : decode cX7_told 90 = .ok (.iload_n 1, 1) := by decide +kernel
theorem dX7_told_91 : decode cX7_told 91 = .ok (.iaload, 1) := by decide +kernel
theorem dX7_told_92 : decode cX7_told 92 = .ok (.invokestatic 150, 3) := by decide +kernel
theorem dX7_told_95 : decode cX7_told 95 = .ok (.ireturn, 1) := by decide +kernel
theorem dX7_told_96 : decode cX7_told 96 = .ok (.bipush (-7), 2) := by decide +kernel
theorem dX7_told_98 : decode cX7_told 98 = .ok (.ireturn, 1) := by decide +kernel
theorem dX7_hearer_0 : decode cX7_hearer 0 = .ok (.iload_n 1, 1) := by decide +kernel
theorem dX7_hearer_1 : decode cX7_hearer 1 = .ok (.iconst 0, 1) := by decide +kernel
theorem dX7_hearer_2 : decode cX7_hearer 2 = .ok (.bipush 9, 2) := by decide +kernel
theorem dX7_hearer_4 : decode cX7_hearer 4 = .ok (.invokestatic 116, 3) := by decide +kernel
theorem dX7_hearer_7 : decode cX7_hearer 7 = .ok (.ifCond .eq 13, 3) := by decide +kernel
theorem dX7_hearer_10 : decode cX7_hearer 10 = .ok (.iload_n 2, 1) := by decide +kernel
theorem dX7_hearer_11 : decode cX7_hearer 11 = .ok (.iconst 1, 1) := by decide +kernel
theorem dX7_hearer_12 : decode cX7_hearer 12 = .ok (.bipush 9, 2) := by decide +kernel
theorem dX7_hearer_14 : decode cX7_hearer 14 = .ok (.invokestatic 116, 3) := by decide +kernel
theorem dX7_hearer_17 : decode cX7_hearer 17 = .ok (.ifCond .ne 6, 3) := by decide +kernel
theorem dX7_hearer_20 : decode cX7_hearer 20 = .ok (.bipush (-2), 2) := by decide +kernel
theorem dX7_hearer_22 : decode cX7_hearer 22 = .ok (.ireturn, 1) := by decide +kernel
theorem dX7_hearer_23 : decode cX7_hearer 23 = .ok (.aload_n 0, 1) := by decide +kernel
theorem dX7_hearer_24 : decode cX7_hearer 24 = .ok (.getfield 28, 3) := by decide +kernel
theorem dX7_hearer_27 : decode cX7_hearer 27 = .ok (.getfield 103, 3) := by decide +kernel
theorem dX7_hearer_30 : decode cX7_hearer 30 = .ok (.bipush 6, 2) := by decide +kernel
theorem dX7_hearer_32 : decode cX7_hearer 32 = .ok (.if_icmp .lt 6, 3) := by decide +kernel
theorem dX7_hearer_35 : decode cX7_hearer 35 = .ok (.bipush (-4), 2) := by decide +kernel
theorem dX7_hearer_37 : decode cX7_hearer 37 = .ok (.ireturn, 1) := by decide +kernel
theorem dX7_hearer_38 : decode cX7_hearer 38 = .ok (.aload_n 0, 1) := by decide +kernel
theorem dX7_hearer_39 : decode cX7_hearer 39 = .ok (.getfield 28, 3) := by decide +kernel
theorem dX7_hearer_42 : decode cX7_hearer 42 = .ok (.iload_n 1, 1) := by decide +kernel
theorem dX7_hearer_43 : decode cX7_hearer 43 = .ok (.iload_n 2, 1) := by decide +kernel
theorem dX7_hearer_44 : decode cX7_hearer 44 = .ok (.invokevirtual 155, 3) := by decide +kernel
theorem dX7_hearer_47 : decode cX7_hearer 47 = .ok (.ireturn, 1) := by decide +kernel
theorem dX7_set_0 : decode cX7_set 0 = .ok (.aload_n 0, 1) := by decide +kernel
theorem dX7_set_1 : decode cX7_set 1 = .ok (.getfield 28, 3) := by decide +kernel
theorem dX7_set_4 : decode cX7_set 4 = .ok (.iload_n 1, 1) := by decide +kernel
theorem dX7_set_5 : decode cX7_set 5 = .ok (.invokevirtual 127, 3) := by decide +kernel
theorem dX7_set_8 : decode cX7_set 8 = .ok (.ifCond .ne 6, 3) := by decide +kernel
theorem dX7_set_11 : decode cX7_set 11 = .ok (.bipush (-5), 2) := by decide +kernel
theorem dX7_set_13 : decode cX7_set 13 = .ok (.ireturn, 1) := by decide +kernel
theorem dX7_set_14 : decode cX7_set 14 = .ok (.aload_n 0, 1) := by decide +kernel
theorem dX7_set_15 : decode cX7_set 15 = .ok (.iload_n 1, 1) := by decide +kernel
theorem dX7_set_16 : decode cX7_set 16 = .ok (.iload_n 2, 1) := by decide +kernel
theorem dX7_set_17 : decode cX7_set 17 = .ok (.iload_n 3, 1) := by decide +kernel
theorem dX7_set_18 : decode cX7_set 18 = .ok (.invokevirtual 158, 3) := by decide +kernel
theorem dX7_set_21 : decode cX7_set 21 = .ok (.ifCond .ne 6, 3) := by decide +kernel
theorem dX7_set_24 : decode cX7_set 24 = .ok (.bipush (-7), 2) := by decide +kernel
theorem dX7_set_26 : decode cX7_set 26 = .ok (.ireturn, 1) := by decide +kernel
theorem dX7_set_27 : decode cX7_set 27 = .ok (.aload_n 0, 1) := by decide +kernel
theorem dX7_set_28 : decode cX7_set 28 = .ok (.getfield 28, 3) := by decide +kernel
theorem dX7_set_31 : decode cX7_set 31 = .ok (.iload_n 1, 1) := by decide +kernel
theorem dX7_set_32 : decode cX7_set 32 = .ok (.iload_n 2, 1) := by decide +kernel
theorem dX7_set_33 : decode cX7_set 33 = .ok (.invokevirtual 161, 3) := by decide +kernel
theorem dX7_set_36 : decode cX7_set 36 = .ok (.istore 4, 2) := by decide +kernel
theorem dX7_set_38 : decode cX7_set 38 = .ok (.aload_n 0, 1) := by decide +kernel
theorem dX7_set_39 : decode cX7_set 39 = .ok (.getfield 28, 3) := by decide +kernel
theorem dX7_set_42 : decode cX7_set 42 = .ok (.iload_n 1, 1) := by decide +kernel
theorem dX7_set_43 : decode cX7_set 43 = .ok (.iload_n 2, 1) := by decide +kernel
theorem dX7_set_44 : decode cX7_set 44 = .ok (.iload_n 3, 1) := by decide +kernel
theorem dX7_set_45 : decode cX7_set 45 = .ok (.invokevirtual 164, 3) := by decide +kernel
theorem dX7_set_48 : decode cX7_set 48 = .ok (.iload 4, 2) := by decide +kernel
theorem dX7_set_50 : decode cX7_set 50 = .ok (.ireturn, 1) := by decide +kernel
theorem dX7_mayBecome_0 : decode cX7_mayBecome 0 = .ok (.iload_n 2, 1) := by decide +kernel
theorem dX7_mayBecome_1 : decode cX7_mayBecome 1 = .ok (.tableswitch 98 0 4 #[35, 43, 52, 77, 90], 35) := by decide +kernel
theorem dX7_mayBecome_36 : decode cX7_mayBecome 36 = .ok (.iload_n 3, 1) := by decide +kernel
theorem dX7_mayBecome_37 : decode cX7_mayBecome 37 = .ok (.iconst 0, 1) := by decide +kernel
theorem dX7_mayBecome_38 : decode cX7_mayBecome 38 = .ok (.bipush 9, 2) := by decide +kernel
theorem dX7_mayBecome_40 : decode cX7_mayBecome 40 = .ok (.invokestatic 116, 3) := by decide +kernel
theorem dX7_mayBecome_43 : decode cX7_mayBecome 43 = .ok (.ireturn, 1) := by decide +kernel
theorem dX7_mayBecome_44 : decode cX7_mayBecome 44 = .ok (.iload_n 3, 1) := by decide +kernel
theorem dX7_mayBecome_45 : decode cX7_mayBecome 45 = .ok (.iconst 0, 1) := by decide +kernel
theorem dX7_mayBecome_46 : decode cX7_mayBecome 46 = .ok (.sipush 9999, 3) := by decide +kernel
theorem dX7_mayBecome_49 : decode cX7_mayBecome 49 = .ok (.invokestatic 116, 3) := by decide +kernel
theorem dX7_mayBecome_52 : decode cX7_mayBecome 52 = .ok (.ireturn, 1) := by decide +kernel
theorem dX7_mayBecome_53 : decode cX7_mayBecome 53 = .ok (.aload_n 0, 1) := by decide +kernel
theorem dX7_mayBecome_54 : decode cX7_mayBecome 54 = .ok (.getfield 28, 3) := by decide +kernel
theorem dX7_mayBecome_57 : decode cX7_mayBecome 57 = .ok (.iload_n 3, 1) := by decide +kernel
theorem dX7_mayBecome_58 : decode cX7_mayBecome 58 = .ok (.invokevirtual 168, 3) := by decide +kernel
theorem dX7_mayBecome_61 : decode cX7_mayBecome 61 = .ok (.ifCond .eq 15, 3) := by decide +kernel
theorem dX7_mayBecome_64 : decode cX7_mayBecome 64 = .ok (.iload_n 3, 1) := by decide +kernel
theorem dX7_mayBecome_65 : decode cX7_mayBecome 65 = .ok (.iload_n 1, 1) := by decide +kernel
theorem dX7_mayBecome_66 : decode cX7_mayBecome 66 = .ok (.invokestatic 171, 3) := by decide +kernel
theorem dX7_mayBecome_69 : decode cX7_mayBecome 69 = .ok (.ifCond .ne 7, 3) := by decide +kernel
theorem dX7_mayBecome_72 : decode cX7_mayBecome 72 = .ok (.iconst 1, 1) := by decide +kernel
theorem dX7_mayBecome_73 : decode cX7_mayBecome 73 = .ok (.goto 4, 3) := by decide +kernel
theorem dX7_mayBecome_76 : decode cX7_mayBecome 76 = .ok (.iconst 0, 1) := by decide +kernel
theorem dX7_mayBecome_77 : decode cX7_mayBecome 77 = .ok (.ireturn, 1) := by decide +kernel
theorem dX7_mayBecome_78 : decode cX7_mayBecome 78 = .ok (.iload_n 3, 1) := by decide +kernel
theorem dX7_mayBecome_79 : decode cX7_mayBecome 79 = .ok (.iconst 0, 1) := by decide +kernel
theorem dX7_mayBecome_80 : decode cX7_mayBecome 80 = .ok (.aload_n 0, 1) := by decide +kernel
theorem dX7_mayBecome_81 : decode cX7_mayBecome 81 = .ok (.getfield 28, 3) := by decide +kernel
theorem dX7_mayBecome_84 : decode cX7_mayBecome 84 = .ok (.invokevirtual 175, 3) := by decide +kernel
theorem dX7_mayBecome_87 : decode cX7_mayBecome 87 = .ok (.invokestatic 116, 3) := by decide +kernel
theorem dX7_mayBecome_90 : decode cX7_mayBecome 90 = .ok (.ireturn, 1) := by decide +kernel
theorem dX7_mayBecome_91 : decode cX7_mayBecome 91 = .ok (.iload_n 3, 1) := by decide +kernel
theorem dX7_mayBecome_92 : decode cX7_mayBecome 92 = .ok (.iconst 1, 1) := by decide +kernel
theorem dX7_mayBecome_93 : decode cX7_mayBecome 93 = .ok (.bipush 9, 2) := by decide +kernel
theorem dX7_mayBecome_95 : decode cX7_mayBecome 95 = .ok (.invokestatic 116, 3) := by decide +kernel
theorem dX7_mayBecome_98 : decode cX7_mayBecome 98 = .ok (.ireturn, 1) := by decide +kernel
theorem dX7_mayBecome_99 : decode cX7_mayBecome 99 = .ok (.iconst 0, 1) := by decide +kernel
theorem dX7_mayBecome_100 : decode cX7_mayBecome 100 = .ok (.ireturn, 1) := by decide +kernel
theorem dX7_of_0 : decode cX7_of 0 = .ok (.aload_n 0, 1) := by decide +kernel
theorem dX7_of_1 : decode cX7_of 1 = .ok (.getfield 28, 3) := by decide +kernel
theorem dX7_of_4 : decode cX7_of 4 = .ok (.iload_n 1, 1) := by decide +kernel
theorem dX7_of_5 : decode cX7_of 5 = .ok (.invokevirtual 127, 3) := by decide +kernel
theorem dX7_of_8 : decode cX7_of 8 = .ok (.ifCond .ne 6, 3) := by decide +kernel
theorem dX7_of_11 : decode cX7_of 11 = .ok (.bipush (-5), 2) := by decide +kernel
theorem dX7_of_13 : decode cX7_of 13 = .ok (.ireturn, 1) := by decide +kernel
theorem dX7_of_14 : decode cX7_of 14 = .ok (.iload_n 2, 1) := by decide +kernel
theorem dX7_of_15 : decode cX7_of 15 = .ok (.iconst 0, 1) := by decide +kernel
theorem dX7_of_16 : decode cX7_of 16 = .ok (.iconst 4, 1) := by decide +kernel
theorem dX7_of_17 : decode cX7_of 17 = .ok (.invokestatic 116, 3) := by decide +kernel
theorem dX7_of_20 : decode cX7_of 20 = .ok (.ifCond .eq 15, 3) := by decide +kernel
theorem dX7_of_23 : decode cX7_of 23 = .ok (.aload_n 0, 1) := by decide +kernel
theorem dX7_of_24 : decode cX7_of 24 = .ok (.getfield 28, 3) := by decide +kernel
theorem dX7_of_27 : decode cX7_of 27 = .ok (.iload_n 1, 1) := by decide +kernel
theorem dX7_of_28 : decode cX7_of 28 = .ok (.iload_n 2, 1) := by decide +kernel
theorem dX7_of_29 : decode cX7_of 29 = .ok (.invokevirtual 161, 3) := by decide +kernel
theorem dX7_of_32 : decode cX7_of 32 = .ok (.goto 5, 3) := by decide +kernel
theorem dX7_of_35 : decode cX7_of 35 = .ok (.bipush (-7), 2) := by decide +kernel
theorem dX7_of_37 : decode cX7_of 37 = .ok (.ireturn, 1) := by decide +kernel
theorem dX7_yields_0 : decode cX7_yields 0 = .ok (.aload_n 0, 1) := by decide +kernel
theorem dX7_yields_1 : decode cX7_yields 1 = .ok (.iload_n 1, 1) := by decide +kernel
theorem dX7_yields_2 : decode cX7_yields 2 = .ok (.iload_n 2, 1) := by decide +kernel
theorem dX7_yields_3 : decode cX7_yields 3 = .ok (.invokevirtual 178, 3) := by decide +kernel
theorem dX7_yields_6 : decode cX7_yields 6 = .ok (.istore_n 3, 1) := by decide +kernel
theorem dX7_yields_7 : decode cX7_yields 7 = .ok (.iload_n 3, 1) := by decide +kernel
theorem dX7_yields_8 : decode cX7_yields 8 = .ok (.ifCond .eq 7, 3) := by decide +kernel
theorem dX7_yields_11 : decode cX7_yields 11 = .ok (.iload_n 3, 1) := by decide +kernel
theorem dX7_yields_12 : decode cX7_yields 12 = .ok (.goto 12, 3) := by decide +kernel
theorem dX7_yields_15 : decode cX7_yields 15 = .ok (.aload_n 0, 1) := by decide +kernel
theorem dX7_yields_16 : decode cX7_yields 16 = .ok (.getfield 28, 3) := by decide +kernel
theorem dX7_yields_19 : decode cX7_yields 19 = .ok (.iload_n 1, 1) := by decide +kernel
theorem dX7_yields_20 : decode cX7_yields 20 = .ok (.iload_n 2, 1) := by decide +kernel
theorem dX7_yields_21 : decode cX7_yields 21 = .ok (.invokevirtual 181, 3) := by decide +kernel
theorem dX7_yields_24 : decode cX7_yields 24 = .ok (.ireturn, 1) := by decide +kernel
theorem dX7_tell_0 : decode cX7_tell 0 = .ok (.aload_n 0, 1) := by decide +kernel
theorem dX7_tell_1 : decode cX7_tell 1 = .ok (.iload_n 1, 1) := by decide +kernel
theorem dX7_tell_2 : decode cX7_tell 2 = .ok (.iload_n 2, 1) := by decide +kernel
theorem dX7_tell_3 : decode cX7_tell 3 = .ok (.invokevirtual 178, 3) := by decide +kernel
theorem dX7_tell_6 : decode cX7_tell 6 = .ok (.istore_n 3, 1) := by decide +kernel
theorem dX7_tell_7 : decode cX7_tell 7 = .ok (.iload_n 3, 1) := by decide +kernel
theorem dX7_tell_8 : decode cX7_tell 8 = .ok (.ifCond .eq 7, 3) := by decide +kernel
theorem dX7_tell_11 : decode cX7_tell 11 = .ok (.iload_n 3, 1) := by decide +kernel
theorem dX7_tell_12 : decode cX7_tell 12 = .ok (.goto 12, 3) := by decide +kernel
theorem dX7_tell_15 : decode cX7_tell 15 = .ok (.aload_n 0, 1) := by decide +kernel
theorem dX7_tell_16 : decode cX7_tell 16 = .ok (.getfield 28, 3) := by decide +kernel
theorem dX7_tell_19 : decode cX7_tell 19 = .ok (.iload_n 1, 1) := by decide +kernel
theorem dX7_tell_20 : decode cX7_tell 20 = .ok (.iload_n 2, 1) := by decide +kernel
theorem dX7_tell_21 : decode cX7_tell 21 = .ok (.invokevirtual 184, 3) := by decide +kernel
theorem dX7_tell_24 : decode cX7_tell 24 = .ok (.ireturn, 1) := by decide +kernel
theorem dX7_refusedTelling_0 : decode cX7_refusedTelling 0 = .ok (.aload_n 0, 1) := by decide +kernel
theorem dX7_refusedTelling_1 : decode cX7_refusedTelling 1 = .ok (.getfield 28, 3) := by decide +kernel
theorem dX7_refusedTelling_4 : decode cX7_refusedTelling 4 = .ok (.iload_n 1, 1) := by decide +kernel
theorem dX7_refusedTelling_5 : decode cX7_refusedTelling 5 = .ok (.invokevirtual 138, 3) := by decide +kernel
theorem dX7_refusedTelling_8 : decode cX7_refusedTelling 8 = .ok (.ifCond .ne 6, 3) := by decide +kernel
theorem dX7_refusedTelling_11 : decode cX7_refusedTelling 11 = .ok (.bipush (-5), 2) := by decide +kernel
theorem dX7_refusedTelling_13 : decode cX7_refusedTelling 13 = .ok (.ireturn, 1) := by decide +kernel
theorem dX7_refusedTelling_14 : decode cX7_refusedTelling 14 = .ok (.aload_n 0, 1) := by decide +kernel
theorem dX7_refusedTelling_15 : decode cX7_refusedTelling 15 = .ok (.getfield 28, 3) := by decide +kernel
theorem dX7_refusedTelling_18 : decode cX7_refusedTelling 18 = .ok (.iload_n 2, 1) := by decide +kernel
theorem dX7_refusedTelling_19 : decode cX7_refusedTelling 19 = .ok (.invokevirtual 127, 3) := by decide +kernel
theorem dX7_refusedTelling_22 : decode cX7_refusedTelling 22 = .ok (.ifCond .eq 7, 3) := by decide +kernel
theorem dX7_refusedTelling_25 : decode cX7_refusedTelling 25 = .ok (.iconst 0, 1) := by decide +kernel
theorem dX7_refusedTelling_26 : decode cX7_refusedTelling 26 = .ok (.goto 5, 3) := by decide +kernel
theorem dX7_refusedTelling_29 : decode cX7_refusedTelling 29 = .ok (.bipush (-6), 2) := by decide +kernel
theorem dX7_refusedTelling_31 : decode cX7_refusedTelling 31 = .ok (.ireturn, 1) := by decide +kernel
theorem dX7_pay_0 : decode cX7_pay 0 = .ok (.aload_n 0, 1) := by decide +kernel
theorem dX7_pay_1 : decode cX7_pay 1 = .ok (.getfield 28, 3) := by decide +kernel
theorem dX7_pay_4 : decode cX7_pay 4 = .ok (.iload_n 1, 1) := by decide +kernel
theorem dX7_pay_5 : decode cX7_pay 5 = .ok (.invokevirtual 127, 3) := by decide +kernel
theorem dX7_pay_8 : decode cX7_pay 8 = .ok (.ifCond .eq 19, 3) := by decide +kernel
theorem dX7_pay_11 : decode cX7_pay 11 = .ok (.aload_n 0, 1) := by decide +kernel
theorem dX7_pay_12 : decode cX7_pay 12 = .ok (.getfield 28, 3) := by decide +kernel
theorem dX7_pay_15 : decode cX7_pay 15 = .ok (.iload_n 2, 1) := by decide +kernel
theorem dX7_pay_16 : decode cX7_pay 16 = .ok (.invokevirtual 127, 3) := by decide +kernel
theorem dX7_pay_19 : decode cX7_pay 19 = .ok (.ifCond .eq 8, 3) := by decide +kernel
theorem dX7_pay_22 : decode cX7_pay 22 = .ok (.iload_n 1, 1) := by decide +kernel
theorem dX7_pay_23 : decode cX7_pay 23 = .ok (.iload_n 2, 1) := by decide +kernel
theorem dX7_pay_24 : decode cX7_pay 24 = .ok (.if_icmp .ne 6, 3) := by decide +kernel
theorem dX7_pay_27 : decode cX7_pay 27 = .ok (.bipush (-5), 2) := by decide +kernel
theorem dX7_pay_29 : decode cX7_pay 29 = .ok (.ireturn, 1) := by decide +kernel
theorem dX7_pay_30 : decode cX7_pay 30 = .ok (.iload_n 3, 1) := by decide +kernel
theorem dX7_pay_31 : decode cX7_pay 31 = .ok (.iconst 0, 1) := by decide +kernel
theorem dX7_pay_32 : decode cX7_pay 32 = .ok (.sipush 9999, 3) := by decide +kernel
theorem dX7_pay_35 : decode cX7_pay 35 = .ok (.invokestatic 116, 3) := by decide +kernel
theorem dX7_pay_38 : decode cX7_pay 38 = .ok (.ifCond .ne 6, 3) := by decide +kernel
theorem dX7_pay_41 : decode cX7_pay 41 = .ok (.bipush (-7), 2) := by decide +kernel
theorem dX7_pay_43 : decode cX7_pay 43 = .ok (.ireturn, 1) := by decide +kernel
theorem dX7_pay_44 : decode cX7_pay 44 = .ok (.aload_n 0, 1) := by decide +kernel
theorem dX7_pay_45 : decode cX7_pay 45 = .ok (.getfield 28, 3) := by decide +kernel
theorem dX7_pay_48 : decode cX7_pay 48 = .ok (.getfield 187, 3) := by decide +kernel
theorem dX7_pay_51 : decode cX7_pay 51 = .ok (.iload_n 1, 1) := by decide +kernel
theorem dX7_pay_52 : decode cX7_pay 52 = .ok (.iaload, 1) := by decide +kernel
theorem dX7_pay_53 : decode cX7_pay 53 = .ok (.iload_n 3, 1) := by decide +kernel
theorem dX7_pay_54 : decode cX7_pay 54 = .ok (.if_icmp .ge 6, 3) := by decide +kernel
theorem dX7_pay_57 : decode cX7_pay 57 = .ok (.bipush (-3), 2) := by decide +kernel
theorem dX7_pay_59 : decode cX7_pay 59 = .ok (.ireturn, 1) := by decide +kernel
theorem dX7_pay_60 : decode cX7_pay 60 = .ok (.aload_n 0, 1) := by decide +kernel
theorem dX7_pay_61 : decode cX7_pay 61 = .ok (.getfield 28, 3) := by decide +kernel
theorem dX7_pay_64 : decode cX7_pay 64 = .ok (.getfield 187, 3) := by decide +kernel
theorem dX7_pay_67 : decode cX7_pay 67 = .ok (.iload_n 2, 1) := by decide +kernel
theorem dX7_pay_68 : decode cX7_pay 68 = .ok (.iaload, 1) := by decide +kernel
theorem dX7_pay_69 : decode cX7_pay 69 = .ok (.iload_n 3, 1) := by decide +kernel
theorem dX7_pay_70 : decode cX7_pay 70 = .ok (.iadd, 1) := by decide +kernel
theorem dX7_pay_71 : decode cX7_pay 71 = .ok (.sipush 9999, 3) := by decide +kernel
theorem dX7_pay_74 : decode cX7_pay 74 = .ok (.if_icmp .le 6, 3) := by decide +kernel
theorem dX7_pay_77 : decode cX7_pay 77 = .ok (.bipush (-4), 2) := by decide +kernel
theorem dX7_pay_79 : decode cX7_pay 79 = .ok (.ireturn, 1) := by decide +kernel
theorem dX7_pay_80 : decode cX7_pay 80 = .ok (.aload_n 0, 1) := by decide +kernel
theorem dX7_pay_81 : decode cX7_pay 81 = .ok (.getfield 28, 3) := by decide +kernel
theorem dX7_pay_84 : decode cX7_pay 84 = .ok (.getfield 187, 3) := by decide +kernel
theorem dX7_pay_87 : decode cX7_pay 87 = .ok (.iload_n 1, 1) := by decide +kernel
theorem dX7_pay_88 : decode cX7_pay 88 = .ok (.dup2, 1) := by decide +kernel
theorem dX7_pay_89 : decode cX7_pay 89 = .ok (.iaload, 1) := by decide +kernel
theorem dX7_pay_90 : decode cX7_pay 90 = .ok (.iload_n 3, 1) := by decide +kernel
theorem dX7_pay_91 : decode cX7_pay 91 = .ok (.isub, 1) := by decide +kernel
theorem dX7_pay_92 : decode cX7_pay 92 = .ok (.iastore, 1) := by decide +kernel
theorem dX7_pay_93 : decode cX7_pay 93 = .ok (.aload_n 0, 1) := by decide +kernel
theorem dX7_pay_94 : decode cX7_pay 94 = .ok (.getfield 28, 3) := by decide +kernel
theorem dX7_pay_97 : decode cX7_pay 97 = .ok (.getfield 187, 3) := by decide +kernel
theorem dX7_pay_100 : decode cX7_pay 100 = .ok (.iload_n 2, 1) := by decide +kernel
theorem dX7_pay_101 : decode cX7_pay 101 = .ok (.dup2, 1) := by decide +kernel
theorem dX7_pay_102 : decode cX7_pay 102 = .ok (.iaload, 1) := by decide +kernel
theorem dX7_pay_103 : decode cX7_pay 103 = .ok (.iload_n 3, 1) := by decide +kernel
theorem dX7_pay_104 : decode cX7_pay 104 = .ok (.iadd, 1) := by decide +kernel
theorem dX7_pay_105 : decode cX7_pay 105 = .ok (.iastore, 1) := by decide +kernel
theorem dX7_pay_106 : decode cX7_pay 106 = .ok (.aload_n 0, 1) := by decide +kernel
theorem dX7_pay_107 : decode cX7_pay 107 = .ok (.getfield 28, 3) := by decide +kernel
theorem dX7_pay_110 : decode cX7_pay 110 = .ok (.getfield 187, 3) := by decide +kernel
theorem dX7_pay_113 : decode cX7_pay 113 = .ok (.iload_n 1, 1) := by decide +kernel
theorem dX7_pay_114 : decode cX7_pay 114 = .ok (.iaload, 1) := by decide +kernel
theorem dX7_pay_115 : decode cX7_pay 115 = .ok (.ireturn, 1) := by decide +kernel
theorem dX7_fades_0 : decode cX7_fades 0 = .ok (.aload_n 0, 1) := by decide +kernel
theorem dX7_fades_1 : decode cX7_fades 1 = .ok (.getfield 28, 3) := by decide +kernel
theorem dX7_fades_4 : decode cX7_fades 4 = .ok (.iload_n 1, 1) := by decide +kernel
theorem dX7_fades_5 : decode cX7_fades 5 = .ok (.invokevirtual 127, 3) := by decide +kernel
theorem dX7_fades_8 : decode cX7_fades 8 = .ok (.ifCond .eq 14, 3) := by decide +kernel
theorem dX7_fades_11 : decode cX7_fades 11 = .ok (.aload_n 0, 1) := by decide +kernel
theorem dX7_fades_12 : decode cX7_fades 12 = .ok (.getfield 28, 3) := by decide +kernel
theorem dX7_fades_15 : decode cX7_fades 15 = .ok (.iload_n 1, 1) := by decide +kernel
theorem dX7_fades_16 : decode cX7_fades 16 = .ok (.invokevirtual 190, 3) := by decide +kernel
theorem dX7_fades_19 : decode cX7_fades 19 = .ok (.goto 5, 3) := by decide +kernel
theorem dX7_fades_22 : decode cX7_fades 22 = .ok (.bipush (-5), 2) := by decide +kernel
theorem dX7_fades_24 : decode cX7_fades 24 = .ok (.ireturn, 1) := by decide +kernel
theorem dX7_night_0 : decode cX7_night 0 = .ok (.aload_n 0, 1) := by decide +kernel
theorem dX7_night_1 : decode cX7_night 1 = .ok (.getfield 28, 3) := by decide +kernel
theorem dX7_night_4 : decode cX7_night 4 = .ok (.getfield 106, 3) := by decide +kernel
theorem dX7_night_7 : decode cX7_night 7 = .ok (.bipush 99, 2) := by decide +kernel
theorem dX7_night_9 : decode cX7_night 9 = .ok (.if_icmp .lt 6, 3) := by decide +kernel
theorem dX7_night_12 : decode cX7_night 12 = .ok (.bipush (-4), 2) := by decide +kernel
theorem dX7_night_14 : decode cX7_night 14 = .ok (.ireturn, 1) := by decide +kernel
theorem dX7_night_15 : decode cX7_night 15 = .ok (.iconst 0, 1) := by decide +kernel
theorem dX7_night_16 : decode cX7_night 16 = .ok (.istore_n 1, 1) := by decide +kernel
theorem dX7_night_17 : decode cX7_night 17 = .ok (.iconst 0, 1) := by decide +kernel
theorem dX7_night_18 : decode cX7_night 18 = .ok (.istore_n 2, 1) := by decide +kernel
theorem dX7_night_19 : decode cX7_night 19 = .ok (.iload_n 2, 1) := by decide +kernel
theorem dX7_night_20 : decode cX7_night 20 = .ok (.aload_n 0, 1) := by decide +kernel
theorem dX7_night_21 : decode cX7_night 21 = .ok (.getfield 28, 3) := by decide +kernel
theorem dX7_night_24 : decode cX7_night 24 = .ok (.getfield 103, 3) := by decide +kernel
theorem dX7_night_27 : decode cX7_night 27 = .ok (.if_icmp .ge 35, 3) := by decide +kernel
theorem dX7_night_30 : decode cX7_night 30 = .ok (.aload_n 0, 1) := by decide +kernel
theorem dX7_night_31 : decode cX7_night 31 = .ok (.getfield 28, 3) := by decide +kernel
theorem dX7_night_34 : decode cX7_night 34 = .ok (.iload_n 2, 1) := by decide +kernel
theorem dX7_night_35 : decode cX7_night 35 = .ok (.invokevirtual 190, 3) := by decide +kernel
theorem dX7_night_38 : decode cX7_night 38 = .ok (.istore_n 3, 1) := by decide +kernel
theorem dX7_night_39 : decode cX7_night 39 = .ok (.aload_n 0, 1) := by decide +kernel
theorem dX7_night_40 : decode cX7_night 40 = .ok (.getfield 28, 3) := by decide +kernel
theorem dX7_night_43 : decode cX7_night 43 = .ok (.getfield 187, 3) := by decide +kernel
theorem dX7_night_46 : decode cX7_night 46 = .ok (.iload_n 2, 1) := by decide +kernel
theorem dX7_night_47 : decode cX7_night 47 = .ok (.dup2, 1) := by decide +kernel
theorem dX7_night_48 : decode cX7_night 48 = .ok (.iaload, 1) := by decide +kernel
theorem dX7_night_49 : decode cX7_night 49 = .ok (.iload_n 3, 1) := by decide +kernel
theorem dX7_night_50 : decode cX7_night 50 = .ok (.isub, 1) := by decide +kernel
theorem dX7_night_51 : decode cX7_night 51 = .ok (.iastore, 1) := by decide +kernel
theorem dX7_night_52 : decode cX7_night 52 = .ok (.iload_n 1, 1) := by decide +kernel
theorem dX7_night_53 : decode cX7_night 53 = .ok (.iload_n 3, 1) := by decide +kernel
theorem dX7_night_54 : decode cX7_night 54 = .ok (.iadd, 1) := by decide +kernel
theorem dX7_night_55 : decode cX7_night 55 = .ok (.istore_n 1, 1) := by decide +kernel
theorem dX7_night_56 : decode cX7_night 56 = .ok (.iinc 2 1, 3) := by decide +kernel
theorem dX7_night_59 : decode cX7_night 59 = .ok (.goto (-40), 3) := by decide +kernel
theorem dX7_night_62 : decode cX7_night 62 = .ok (.aload_n 0, 1) := by decide +kernel
theorem dX7_night_63 : decode cX7_night 63 = .ok (.getfield 28, 3) := by decide +kernel
theorem dX7_night_66 : decode cX7_night 66 = .ok (.dup, 1) := by decide +kernel
theorem dX7_night_67 : decode cX7_night 67 = .ok (.getfield 106, 3) := by decide +kernel
theorem dX7_night_70 : decode cX7_night 70 = .ok (.iconst 1, 1) := by decide +kernel
theorem dX7_night_71 : decode cX7_night 71 = .ok (.iadd, 1) := by decide +kernel
theorem dX7_night_72 : decode cX7_night 72 = .ok (.putfield 106, 3) := by decide +kernel
theorem dX7_night_75 : decode cX7_night 75 = .ok (.iload_n 1, 1) := by decide +kernel
theorem dX7_night_76 : decode cX7_night 76 = .ok (.ireturn, 1) := by decide +kernel
theorem dX7_friday_0 : decode cX7_friday 0 = .ok (.iload_n 1, 1) := by decide +kernel
theorem dX7_friday_1 : decode cX7_friday 1 = .ok (.iconst 1, 1) := by decide +kernel
theorem dX7_friday_2 : decode cX7_friday 2 = .ok (.iconst 3, 1) := by decide +kernel
theorem dX7_friday_3 : decode cX7_friday 3 = .ok (.invokestatic 116, 3) := by decide +kernel
theorem dX7_friday_6 : decode cX7_friday 6 = .ok (.ifCond .eq 14, 3) := by decide +kernel
theorem dX7_friday_9 : decode cX7_friday 9 = .ok (.iload_n 2, 1) := by decide +kernel
theorem dX7_friday_10 : decode cX7_friday 10 = .ok (.iconst (-1), 1) := by decide +kernel
theorem dX7_friday_11 : decode cX7_friday 11 = .ok (.iload_n 1, 1) := by decide +kernel
theorem dX7_friday_12 : decode cX7_friday 12 = .ok (.iconst 1, 1) := by decide +kernel
theorem dX7_friday_13 : decode cX7_friday 13 = .ok (.isub, 1) := by decide +kernel
theorem dX7_friday_14 : decode cX7_friday 14 = .ok (.invokestatic 116, 3) := by decide +kernel
theorem dX7_friday_17 : decode cX7_friday 17 = .ok (.ifCond .ne 6, 3) := by decide +kernel
theorem dX7_friday_20 : decode cX7_friday 20 = .ok (.bipush (-2), 2) := by decide +kernel
theorem dX7_friday_22 : decode cX7_friday 22 = .ok (.ireturn, 1) := by decide +kernel
theorem dX7_friday_23 : decode cX7_friday 23 = .ok (.aload_n 0, 1) := by decide +kernel
theorem dX7_friday_24 : decode cX7_friday 24 = .ok (.getfield 28, 3) := by decide +kernel
theorem dX7_friday_27 : decode cX7_friday 27 = .ok (.invokevirtual 194, 3) := by decide +kernel
theorem dX7_friday_30 : decode cX7_friday 30 = .ok (.ifCond .ne 13, 3) := by decide +kernel
theorem dX7_friday_33 : decode cX7_friday 33 = .ok (.iload_n 2, 1) := by decide +kernel
theorem dX7_friday_34 : decode cX7_friday 34 = .ok (.ifCond .ge 7, 3) := by decide +kernel
theorem dX7_friday_37 : decode cX7_friday 37 = .ok (.iconst 0, 1) := by decide +kernel
theorem dX7_friday_38 : decode cX7_friday 38 = .ok (.goto 4, 3) := by decide +kernel
theorem dX7_friday_41 : decode cX7_friday 41 = .ok (.iconst (-1), 1) := by decide +kernel
theorem dX7_friday_42 : decode cX7_friday 42 = .ok (.ireturn, 1) := by decide +kernel
theorem dX7_friday_43 : decode cX7_friday 43 = .ok (.aload_n 0, 1) := by decide +kernel
theorem dX7_friday_44 : decode cX7_friday 44 = .ok (.getfield 32, 3) := by decide +kernel
theorem dX7_friday_47 : decode cX7_friday 47 = .ok (.aload_n 0, 1) := by decide +kernel
theorem dX7_friday_48 : decode cX7_friday 48 = .ok (.getfield 28, 3) := by decide +kernel
theorem dX7_friday_51 : decode cX7_friday 51 = .ok (.invokevirtual 197, 3) := by decide +kernel
theorem dX7_friday_54 : decode cX7_friday 54 = .ok (.aload_n 0, 1) := by decide +kernel
theorem dX7_friday_55 : decode cX7_friday 55 = .ok (.getfield 47, 3) := by decide +kernel
theorem dX7_friday_58 : decode cX7_friday 58 = .ok (.iload_n 1, 1) := by decide +kernel
theorem dX7_friday_59 : decode cX7_friday 59 = .ok (.invokevirtual 200, 3) := by decide +kernel
theorem dX7_friday_62 : decode cX7_friday 62 = .ok (.iload_n 2, 1) := by decide +kernel
theorem dX7_friday_63 : decode cX7_friday 63 = .ok (.ifCond .ge 13, 3) := by decide +kernel
theorem dX7_friday_66 : decode cX7_friday 66 = .ok (.aload_n 0, 1) := by decide +kernel
theorem dX7_friday_67 : decode cX7_friday 67 = .ok (.getfield 47, 3) := by decide +kernel
theorem dX7_friday_70 : decode cX7_friday 70 = .ok (.getfield 203, 3) := by decide +kernel
theorem dX7_friday_73 : decode cX7_friday 73 = .ok (.goto 11, 3) := by decide +kernel
theorem dX7_friday_76 : decode cX7_friday 76 = .ok (.aload_n 0, 1) := by decide +kernel
theorem dX7_friday_77 : decode cX7_friday 77 = .ok (.getfield 47, 3) := by decide +kernel
theorem dX7_friday_80 : decode cX7_friday 80 = .ok (.iload_n 2, 1) := by decide +kernel
theorem dX7_friday_81 : decode cX7_friday 81 = .ok (.invokevirtual 206, 3) := by decide +kernel
theorem dX7_friday_84 : decode cX7_friday 84 = .ok (.ireturn, 1) := by decide +kernel
theorem dX7_greedy_0 : decode cX7_greedy 0 = .ok (.iload_n 1, 1) := by decide +kernel
theorem dX7_greedy_1 : decode cX7_greedy 1 = .ok (.iconst 1, 1) := by decide +kernel
theorem dX7_greedy_2 : decode cX7_greedy 2 = .ok (.bipush 20, 2) := by decide +kernel
theorem dX7_greedy_4 : decode cX7_greedy 4 = .ok (.invokestatic 116, 3) := by decide +kernel
theorem dX7_greedy_7 : decode cX7_greedy 7 = .ok (.ifCond .eq 12, 3) := by decide +kernel
theorem dX7_greedy_10 : decode cX7_greedy 10 = .ok (.iload_n 2, 1) := by decide +kernel
theorem dX7_greedy_11 : decode cX7_greedy 11 = .ok (.iconst 0, 1) := by decide +kernel
theorem dX7_greedy_12 : decode cX7_greedy 12 = .ok (.iconst 1, 1) := by decide +kernel
theorem dX7_greedy_13 : decode cX7_greedy 13 = .ok (.invokestatic 116, 3) := by decide +kernel
theorem dX7_greedy_16 : decode cX7_greedy 16 = .ok (.ifCond .ne 6, 3) := by decide +kernel
theorem dX7_greedy_19 : decode cX7_greedy 19 = .ok (.bipush (-2), 2) := by decide +kernel
theorem dX7_greedy_21 : decode cX7_greedy 21 = .ok (.ireturn, 1) := by decide +kernel
theorem dX7_greedy_22 : decode cX7_greedy 22 = .ok (.aload_n 0, 1) := by decide +kernel
theorem dX7_greedy_23 : decode cX7_greedy 23 = .ok (.getfield 28, 3) := by decide +kernel
theorem dX7_greedy_26 : decode cX7_greedy 26 = .ok (.invokevirtual 194, 3) := by decide +kernel
theorem dX7_greedy_29 : decode cX7_greedy 29 = .ok (.ifCond .ne 13, 3) := by decide +kernel
theorem dX7_greedy_32 : decode cX7_greedy 32 = .ok (.iload_n 2, 1) := by decide +kernel
theorem dX7_greedy_33 : decode cX7_greedy 33 = .ok (.ifCond .ne 7, 3) := by decide +kernel
theorem dX7_greedy_36 : decode cX7_greedy 36 = .ok (.iconst 0, 1) := by decide +kernel
theorem dX7_greedy_37 : decode cX7_greedy 37 = .ok (.goto 4, 3) := by decide +kernel
theorem dX7_greedy_40 : decode cX7_greedy 40 = .ok (.iconst (-1), 1) := by decide +kernel
theorem dX7_greedy_41 : decode cX7_greedy 41 = .ok (.ireturn, 1) := by decide +kernel
theorem dX7_greedy_42 : decode cX7_greedy 42 = .ok (.aload_n 0, 1) := by decide +kernel
theorem dX7_greedy_43 : decode cX7_greedy 43 = .ok (.getfield 32, 3) := by decide +kernel
theorem dX7_greedy_46 : decode cX7_greedy 46 = .ok (.aload_n 0, 1) := by decide +kernel
theorem dX7_greedy_47 : decode cX7_greedy 47 = .ok (.getfield 28, 3) := by decide +kernel
theorem dX7_greedy_50 : decode cX7_greedy 50 = .ok (.invokevirtual 197, 3) := by decide +kernel
theorem dX7_greedy_53 : decode cX7_greedy 53 = .ok (.aload_n 0, 1) := by decide +kernel
theorem dX7_greedy_54 : decode cX7_greedy 54 = .ok (.getfield 32, 3) := by decide +kernel
theorem dX7_greedy_57 : decode cX7_greedy 57 = .ok (.invokevirtual 209, 3) := by decide +kernel
theorem dX7_greedy_60 : decode cX7_greedy 60 = .ok (.istore_n 3, 1) := by decide +kernel
theorem dX7_greedy_61 : decode cX7_greedy 61 = .ok (.iload_n 2, 1) := by decide +kernel
theorem dX7_greedy_62 : decode cX7_greedy 62 = .ok (.iconst 1, 1) := by decide +kernel
theorem dX7_greedy_63 : decode cX7_greedy 63 = .ok (.if_icmp .ne 5, 3) := by decide +kernel
theorem dX7_greedy_66 : decode cX7_greedy 66 = .ok (.iload_n 3, 1) := by decide +kernel
theorem dX7_greedy_67 : decode cX7_greedy 67 = .ok (.ireturn, 1) := by decide +kernel
theorem dX7_greedy_68 : decode cX7_greedy 68 = .ok (.iconst 0, 1) := by decide +kernel
theorem dX7_greedy_69 : decode cX7_greedy 69 = .ok (.istore 4, 2) := by decide +kernel
theorem dX7_greedy_71 : decode cX7_greedy 71 = .ok (.iconst 0, 1) := by decide +kernel
theorem dX7_greedy_72 : decode cX7_greedy 72 = .ok (.istore 5, 2) := by decide +kernel
theorem dX7_greedy_74 : decode cX7_greedy 74 = .ok (.iload 5, 2) := by decide +kernel
theorem dX7_greedy_76 : decode cX7_greedy 76 = .ok (.iload_n 1, 1) := by decide +kernel
theorem dX7_greedy_77 : decode cX7_greedy 77 = .ok (.if_icmp .ge 40, 3) := by decide +kernel
theorem dX7_greedy_80 : decode cX7_greedy 80 = .ok (.aload_n 0, 1) := by decide +kernel
theorem dX7_greedy_81 : decode cX7_greedy 81 = .ok (.getfield 32, 3) := by decide +kernel
theorem dX7_greedy_84 : decode cX7_greedy 84 = .ok (.invokevirtual 209, 3) := by decide +kernel
theorem dX7_greedy_87 : decode cX7_greedy 87 = .ok (.istore 6, 2) := by decide +kernel
theorem dX7_greedy_89 : decode cX7_greedy 89 = .ok (.iload 4, 2) := by decide +kernel
theorem dX7_greedy_91 : decode cX7_greedy 91 = .ok (.aload_n 0, 1) := by decide +kernel
theorem dX7_greedy_92 : decode cX7_greedy 92 = .ok (.getfield 32, 3) := by decide +kernel
theorem dX7_greedy_95 : decode cX7_greedy 95 = .ok (.iload 6, 2) := by decide +kernel
theorem dX7_greedy_97 : decode cX7_greedy 97 = .ok (.bipush 10, 2) := by decide +kernel
theorem dX7_greedy_99 : decode cX7_greedy 99 = .ok (.idiv, 1) := by decide +kernel
theorem dX7_greedy_100 : decode cX7_greedy 100 = .ok (.iload 6, 2) := by decide +kernel
theorem dX7_greedy_102 : decode cX7_greedy 102 = .ok (.bipush 10, 2) := by decide +kernel
theorem dX7_greedy_104 : decode cX7_greedy 104 = .ok (.irem, 1) := by decide +kernel
theorem dX7_greedy_105 : decode cX7_greedy 105 = .ok (.invokevirtual 184, 3) := by decide +kernel
theorem dX7_greedy_108 : decode cX7_greedy 108 = .ok (.iadd, 1) := by decide +kernel
theorem dX7_greedy_109 : decode cX7_greedy 109 = .ok (.istore 4, 2) := by decide +kernel
theorem dX7_greedy_111 : decode cX7_greedy 111 = .ok (.iinc 5 1, 3) := by decide +kernel
theorem dX7_greedy_114 : decode cX7_greedy 114 = .ok (.goto (-40), 3) := by decide +kernel
theorem dX7_greedy_117 : decode cX7_greedy 117 = .ok (.iload 4, 2) := by decide +kernel
theorem dX7_greedy_119 : decode cX7_greedy 119 = .ok (.ireturn, 1) := by decide +kernel
theorem dX7_mine_0 : decode cX7_mine 0 = .ok (.aload_n 0, 1) := by decide +kernel
theorem dX7_mine_1 : decode cX7_mine 1 = .ok (.iload_n 1, 1) := by decide +kernel
theorem dX7_mine_2 : decode cX7_mine 2 = .ok (.iload_n 2, 1) := by decide +kernel
theorem dX7_mine_3 : decode cX7_mine 3 = .ok (.invokevirtual 178, 3) := by decide +kernel
theorem dX7_mine_6 : decode cX7_mine 6 = .ok (.istore 4, 2) := by decide +kernel
theorem dX7_mine_8 : decode cX7_mine 8 = .ok (.iload 4, 2) := by decide +kernel
theorem dX7_mine_10 : decode cX7_mine 10 = .ok (.ifCond .eq 6, 3) := by decide +kernel
theorem dX7_mine_13 : decode cX7_mine 13 = .ok (.iload 4, 2) := by decide +kernel
theorem dX7_mine_15 : decode cX7_mine 15 = .ok (.ireturn, 1) := by decide +kernel
theorem dX7_mine_16 : decode cX7_mine 16 = .ok (.iload_n 3, 1) := by decide +kernel
theorem dX7_mine_17 : decode cX7_mine 17 = .ok (.iconst 0, 1) := by decide +kernel
theorem dX7_mine_18 : decode cX7_mine 18 = .ok (.bipush 99, 2) := by decide +kernel
theorem dX7_mine_20 : decode cX7_mine 20 = .ok (.invokestatic 116, 3) := by decide +kernel
theorem dX7_mine_23 : decode cX7_mine 23 = .ok (.ifCond .ne 6, 3) := by decide +kernel
theorem dX7_mine_26 : decode cX7_mine 26 = .ok (.bipush (-7), 2) := by decide +kernel
theorem dX7_mine_28 : decode cX7_mine 28 = .ok (.ireturn, 1) := by decide +kernel
theorem dX7_mine_29 : decode cX7_mine 29 = .ok (.aload_n 0, 1) := by decide +kernel
theorem dX7_mine_30 : decode cX7_mine 30 = .ok (.getfield 32, 3) := by decide +kernel
theorem dX7_mine_33 : decode cX7_mine 33 = .ok (.aload_n 0, 1) := by decide +kernel
theorem dX7_mine_34 : decode cX7_mine 34 = .ok (.getfield 28, 3) := by decide +kernel
theorem dX7_mine_37 : decode cX7_mine 37 = .ok (.invokevirtual 197, 3) := by decide +kernel
theorem dX7_mine_40 : decode cX7_mine 40 = .ok (.iconst 0, 1) := by decide +kernel
theorem dX7_mine_41 : decode cX7_mine 41 = .ok (.istore 5, 2) := by decide +kernel
theorem dX7_mine_43 : decode cX7_mine 43 = .ok (.iload 5, 2) := by decide +kernel
theorem dX7_mine_45 : decode cX7_mine 45 = .ok (.bipush 100, 2) := by decide +kernel
theorem dX7_mine_47 : decode cX7_mine 47 = .ok (.if_icmp .ge 25, 3) := by decide +kernel
theorem dX7_mine_50 : decode cX7_mine 50 = .ok (.aload_n 0, 1) := by decide +kernel
theorem dX7_mine_51 : decode cX7_mine 51 = .ok (.getfield 32, 3) := by decide +kernel
theorem dX7_mine_54 : decode cX7_mine 54 = .ok (.iload_n 1, 1) := by decide +kernel
theorem dX7_mine_55 : decode cX7_mine 55 = .ok (.iload_n 2, 1) := by decide +kernel
theorem dX7_mine_56 : decode cX7_mine 56 = .ok (.invokevirtual 184, 3) := by decide +kernel
theorem dX7_mine_59 : decode cX7_mine 59 = .ok (.iload_n 3, 1) := by decide +kernel
theorem dX7_mine_60 : decode cX7_mine 60 = .ok (.if_icmp .gt 6, 3) := by decide +kernel
theorem dX7_mine_63 : decode cX7_mine 63 = .ok (.iload 5, 2) := by decide +kernel
theorem dX7_mine_65 : decode cX7_mine 65 = .ok (.ireturn, 1) := by decide +kernel
theorem dX7_mine_66 : decode cX7_mine 66 = .ok (.iinc 5 1, 3) := by decide +kernel
theorem dX7_mine_69 : decode cX7_mine 69 = .ok (.goto (-26), 3) := by decide +kernel
theorem dX7_mine_72 : decode cX7_mine 72 = .ok (.iconst (-1), 1) := by decide +kernel
theorem dX7_mine_73 : decode cX7_mine 73 = .ok (.ireturn, 1) := by decide +kernel
theorem dX7_round_0 : decode cX7_round 0 = .ok (.iload_n 1, 1) := by decide +kernel
theorem dX7_round_1 : decode cX7_round 1 = .ok (.iconst 0, 1) := by decide +kernel
theorem dX7_round_2 : decode cX7_round 2 = .ok (.iconst 1, 1) := by decide +kernel
theorem dX7_round_3 : decode cX7_round 3 = .ok (.invokestatic 116, 3) := by decide +kernel
theorem dX7_round_6 : decode cX7_round 6 = .ok (.ifCond .ne 6, 3) := by decide +kernel
theorem dX7_round_9 : decode cX7_round 9 = .ok (.bipush (-2), 2) := by decide +kernel
theorem dX7_round_11 : decode cX7_round 11 = .ok (.ireturn, 1) := by decide +kernel
theorem dX7_round_12 : decode cX7_round 12 = .ok (.iconst (-1), 1) := by decide +kernel
theorem dX7_round_13 : decode cX7_round 13 = .ok (.istore_n 2, 1) := by decide +kernel
theorem dX7_round_14 : decode cX7_round 14 = .ok (.iconst (-1), 1) := by decide +kernel
theorem dX7_round_15 : decode cX7_round 15 = .ok (.istore_n 3, 1) := by decide +kernel
theorem dX7_round_16 : decode cX7_round 16 = .ok (.iconst 0, 1) := by decide +kernel
theorem dX7_round_17 : decode cX7_round 17 = .ok (.istore 4, 2) := by decide +kernel
theorem dX7_round_19 : decode cX7_round 19 = .ok (.iload 4, 2) := by decide +kernel
theorem dX7_round_21 : decode cX7_round 21 = .ok (.aload_n 0, 1) := by decide +kernel
theorem dX7_round_22 : decode cX7_round 22 = .ok (.getfield 28, 3) := by decide +kernel
theorem dX7_round_25 : decode cX7_round 25 = .ok (.getfield 99, 3) := by decide +kernel
theorem dX7_round_28 : decode cX7_round 28 = .ok (.if_icmp .ge 29, 3) := by decide +kernel
theorem dX7_round_31 : decode cX7_round 31 = .ok (.aload_n 0, 1) := by decide +kernel
theorem dX7_round_32 : decode cX7_round 32 = .ok (.iload 4, 2) := by decide +kernel
theorem dX7_round_34 : decode cX7_round 34 = .ok (.invokevirtual 212, 3) := by decide +kernel
theorem dX7_round_37 : decode cX7_round 37 = .ok (.istore 5, 2) := by decide +kernel
theorem dX7_round_39 : decode cX7_round 39 = .ok (.iload 5, 2) := by decide +kernel
theorem dX7_round_41 : decode cX7_round 41 = .ok (.iload_n 3, 1) := by decide +kernel
theorem dX7_round_42 : decode cX7_round 42 = .ok (.if_icmp .le 9, 3) := by decide +kernel
theorem dX7_round_45 : decode cX7_round 45 = .ok (.iload 5, 2) := by decide +kernel
theorem dX7_round_47 : decode cX7_round 47 = .ok (.istore_n 3, 1) := by decide +kernel
theorem dX7_round_48 : decode cX7_round 48 = .ok (.iload 4, 2) := by decide +kernel
theorem dX7_round_50 : decode cX7_round 50 = .ok (.istore_n 2, 1) := by decide +kernel
theorem dX7_round_51 : decode cX7_round 51 = .ok (.iinc 4 1, 3) := by decide +kernel
theorem dX7_round_54 : decode cX7_round 54 = .ok (.goto (-35), 3) := by decide +kernel
theorem dX7_round_57 : decode cX7_round 57 = .ok (.iload_n 1, 1) := by decide +kernel
theorem dX7_round_58 : decode cX7_round 58 = .ok (.ifCond .ne 7, 3) := by decide +kernel
theorem dX7_round_61 : decode cX7_round 61 = .ok (.iload_n 2, 1) := by decide +kernel
theorem dX7_round_62 : decode cX7_round 62 = .ok (.goto 4, 3) := by decide +kernel
theorem dX7_round_65 : decode cX7_round 65 = .ok (.iload_n 3, 1) := by decide +kernel
theorem dX7_round_66 : decode cX7_round 66 = .ok (.ireturn, 1) := by decide +kernel
theorem dX7_toldToEach_0 : decode cX7_toldToEach 0 = .ok (.aload_n 0, 1) := by decide +kernel
theorem dX7_toldToEach_1 : decode cX7_toldToEach 1 = .ok (.getfield 32, 3) := by decide +kernel
theorem dX7_toldToEach_4 : decode cX7_toldToEach 4 = .ok (.aload_n 0, 1) := by decide +kernel
theorem dX7_toldToEach_5 : decode cX7_toldToEach 5 = .ok (.getfield 28, 3) := by decide +kernel
theorem dX7_toldToEach_8 : decode cX7_toldToEach 8 = .ok (.invokevirtual 197, 3) := by decide +kernel
theorem dX7_toldToEach_11 : decode cX7_toldToEach 11 = .ok (.iconst 0, 1) := by decide +kernel
theorem dX7_toldToEach_12 : decode cX7_toldToEach 12 = .ok (.istore_n 2, 1) := by decide +kernel
theorem dX7_toldToEach_13 : decode cX7_toldToEach 13 = .ok (.iconst 0, 1) := by decide +kernel
theorem dX7_toldToEach_14 : decode cX7_toldToEach 14 = .ok (.istore_n 3, 1) := by decide +kernel
theorem dX7_toldToEach_15 : decode cX7_toldToEach 15 = .ok (.iload_n 3, 1) := by decide +kernel
theorem dX7_toldToEach_16 : decode cX7_toldToEach 16 = .ok (.aload_n 0, 1) := by decide +kernel
theorem dX7_toldToEach_17 : decode cX7_toldToEach 17 = .ok (.getfield 32, 3) := by decide +kernel
theorem dX7_toldToEach_20 : decode cX7_toldToEach 20 = .ok (.getfield 103, 3) := by decide +kernel
theorem dX7_toldToEach_23 : decode cX7_toldToEach 23 = .ok (.if_icmp .ge 21, 3) := by decide +kernel
theorem dX7_toldToEach_26 : decode cX7_toldToEach 26 = .ok (.iload_n 2, 1) := by decide +kernel
theorem dX7_toldToEach_27 : decode cX7_toldToEach 27 = .ok (.aload_n 0, 1) := by decide +kernel
theorem dX7_toldToEach_28 : decode cX7_toldToEach 28 = .ok (.getfield 32, 3) := by decide +kernel
theorem dX7_toldToEach_31 : decode cX7_toldToEach 31 = .ok (.iload_n 1, 1) := by decide +kernel
theorem dX7_toldToEach_32 : decode cX7_toldToEach 32 = .ok (.iload_n 3, 1) := by decide +kernel
theorem dX7_toldToEach_33 : decode cX7_toldToEach 33 = .ok (.invokevirtual 184, 3) := by decide +kernel
theorem dX7_toldToEach_36 : decode cX7_toldToEach 36 = .ok (.iadd, 1) := by decide +kernel
theorem dX7_toldToEach_37 : decode cX7_toldToEach 37 = .ok (.istore_n 2, 1) := by decide +kernel
theorem dX7_toldToEach_38 : decode cX7_toldToEach 38 = .ok (.iinc 3 1, 3) := by decide +kernel
theorem dX7_toldToEach_41 : decode cX7_toldToEach 41 = .ok (.goto (-26), 3) := by decide +kernel
theorem dX7_toldToEach_44 : decode cX7_toldToEach 44 = .ok (.iload_n 2, 1) := by decide +kernel
theorem dX7_toldToEach_45 : decode cX7_toldToEach 45 = .ok (.ireturn, 1) := by decide +kernel
theorem dX7_last_0 : decode cX7_last 0 = .ok (.aload_n 0, 1) := by decide +kernel
theorem dX7_last_1 : decode cX7_last 1 = .ok (.getfield 28, 3) := by decide +kernel
theorem dX7_last_4 : decode cX7_last 4 = .ok (.iload_n 1, 1) := by decide +kernel
theorem dX7_last_5 : decode cX7_last 5 = .ok (.invokevirtual 138, 3) := by decide +kernel
theorem dX7_last_8 : decode cX7_last 8 = .ok (.ifCond .ne 6, 3) := by decide +kernel
theorem dX7_last_11 : decode cX7_last 11 = .ok (.bipush (-5), 2) := by decide +kernel
theorem dX7_last_13 : decode cX7_last 13 = .ok (.ireturn, 1) := by decide +kernel
theorem dX7_last_14 : decode cX7_last 14 = .ok (.iconst (-1), 1) := by decide +kernel
theorem dX7_last_15 : decode cX7_last 15 = .ok (.istore_n 2, 1) := by decide +kernel
theorem dX7_last_16 : decode cX7_last 16 = .ok (.iconst 0, 1) := by decide +kernel
theorem dX7_last_17 : decode cX7_last 17 = .ok (.istore_n 3, 1) := by decide +kernel
theorem dX7_last_18 : decode cX7_last 18 = .ok (.iconst 0, 1) := by decide +kernel
theorem dX7_last_19 : decode cX7_last 19 = .ok (.istore 4, 2) := by decide +kernel
theorem dX7_last_21 : decode cX7_last 21 = .ok (.iload 4, 2) := by decide +kernel
theorem dX7_last_23 : decode cX7_last 23 = .ok (.aload_n 0, 1) := by decide +kernel
theorem dX7_last_24 : decode cX7_last 24 = .ok (.getfield 28, 3) := by decide +kernel
theorem dX7_last_27 : decode cX7_last 27 = .ok (.getfield 103, 3) := by decide +kernel
theorem dX7_last_30 : decode cX7_last 30 = .ok (.if_icmp .ge 46, 3) := by decide +kernel
theorem dX7_last_33 : decode cX7_last 33 = .ok (.aload_n 0, 1) := by decide +kernel
theorem dX7_last_34 : decode cX7_last 34 = .ok (.getfield 28, 3) := by decide +kernel
theorem dX7_last_37 : decode cX7_last 37 = .ok (.iload_n 1, 1) := by decide +kernel
theorem dX7_last_38 : decode cX7_last 38 = .ok (.iload 4, 2) := by decide +kernel
theorem dX7_last_40 : decode cX7_last 40 = .ok (.invokevirtual 181, 3) := by decide +kernel
theorem dX7_last_43 : decode cX7_last 43 = .ok (.aload_n 0, 1) := by decide +kernel
theorem dX7_last_44 : decode cX7_last 44 = .ok (.iload_n 1, 1) := by decide +kernel
theorem dX7_last_45 : decode cX7_last 45 = .ok (.iload 4, 2) := by decide +kernel
theorem dX7_last_47 : decode cX7_last 47 = .ok (.invokevirtual 215, 3) := by decide +kernel
theorem dX7_last_50 : decode cX7_last 50 = .ok (.isub, 1) := by decide +kernel
theorem dX7_last_51 : decode cX7_last 51 = .ok (.istore 5, 2) := by decide +kernel
theorem dX7_last_53 : decode cX7_last 53 = .ok (.iload_n 2, 1) := by decide +kernel
theorem dX7_last_54 : decode cX7_last 54 = .ok (.iconst (-1), 1) := by decide +kernel
theorem dX7_last_55 : decode cX7_last 55 = .ok (.if_icmp .eq 9, 3) := by decide +kernel
theorem dX7_last_58 : decode cX7_last 58 = .ok (.iload 5, 2) := by decide +kernel
theorem dX7_last_60 : decode cX7_last 60 = .ok (.iload_n 3, 1) := by decide +kernel
theorem dX7_last_61 : decode cX7_last 61 = .ok (.if_icmp .ge 9, 3) := by decide +kernel
theorem dX7_last_64 : decode cX7_last 64 = .ok (.iload 5, 2) := by decide +kernel
theorem dX7_last_66 : decode cX7_last 66 = .ok (.istore_n 3, 1) := by decide +kernel
theorem dX7_last_67 : decode cX7_last 67 = .ok (.iload 4, 2) := by decide +kernel
theorem dX7_last_69 : decode cX7_last 69 = .ok (.istore_n 2, 1) := by decide +kernel
theorem dX7_last_70 : decode cX7_last 70 = .ok (.iinc 4 1, 3) := by decide +kernel
theorem dX7_last_73 : decode cX7_last 73 = .ok (.goto (-52), 3) := by decide +kernel
theorem dX7_last_76 : decode cX7_last 76 = .ok (.iload_n 2, 1) := by decide +kernel
theorem dX7_last_77 : decode cX7_last 77 = .ok (.ireturn, 1) := by decide +kernel
theorem dX7_worthBehindOthers_0 : decode cX7_worthBehindOthers 0 = .ok (.aload_n 0, 1) := by decide +kernel
theorem dX7_worthBehindOthers_1 : decode cX7_worthBehindOthers 1 = .ok (.getfield 32, 3) := by decide +kernel
theorem dX7_worthBehindOthers_4 : decode cX7_worthBehindOthers 4 = .ok (.aload_n 0, 1) := by decide +kernel
theorem dX7_worthBehindOthers_5 : decode cX7_worthBehindOthers 5 = .ok (.getfield 28, 3) := by decide +kernel
theorem dX7_worthBehindOthers_8 : decode cX7_worthBehindOthers 8 = .ok (.invokevirtual 197, 3) := by decide +kernel
theorem dX7_worthBehindOthers_11 : decode cX7_worthBehindOthers 11 = .ok (.iload_n 2, 1) := by decide +kernel
theorem dX7_worthBehindOthers_12 : decode cX7_worthBehindOthers 12 = .ok (.iconst 1, 1) := by decide +kernel
theorem dX7_worthBehindOthers_13 : decode cX7_worthBehindOthers 13 = .ok (.iadd, 1) := by decide +kernel
theorem dX7_worthBehindOthers_14 : decode cX7_worthBehindOthers 14 = .ok (.istore_n 3, 1) := by decide +kernel
theorem dX7_worthBehindOthers_15 : decode cX7_worthBehindOthers 15 = .ok (.iload_n 3, 1) := by decide +kernel
theorem dX7_worthBehindOthers_16 : decode cX7_worthBehindOthers 16 = .ok (.aload_n 0, 1) := by decide +kernel
theorem dX7_worthBehindOthers_17 : decode cX7_worthBehindOthers 17 = .ok (.getfield 32, 3) := by decide +kernel
theorem dX7_worthBehindOthers_20 : decode cX7_worthBehindOthers 20 = .ok (.getfield 103, 3) := by decide +kernel
theorem dX7_worthBehindOthers_23 : decode cX7_worthBehindOthers 23 = .ok (.if_icmp .ge 19, 3) := by decide +kernel
theorem dX7_worthBehindOthers_26 : decode cX7_worthBehindOthers 26 = .ok (.aload_n 0, 1) := by decide +kernel
theorem dX7_worthBehindOthers_27 : decode cX7_worthBehindOthers 27 = .ok (.getfield 32, 3) := by decide +kernel
theorem dX7_worthBehindOthers_30 : decode cX7_worthBehindOthers 30 = .ok (.iload_n 1, 1) := by decide +kernel
theorem dX7_worthBehindOthers_31 : decode cX7_worthBehindOthers 31 = .ok (.iload_n 3, 1) := by decide +kernel
theorem dX7_worthBehindOthers_32 : decode cX7_worthBehindOthers 32 = .ok (.invokevirtual 184, 3) := by decide +kernel
theorem dX7_worthBehindOthers_35 : decode cX7_worthBehindOthers 35 = .ok (.pop, 1) := by decide +kernel
theorem dX7_worthBehindOthers_36 : decode cX7_worthBehindOthers 36 = .ok (.iinc 3 1, 3) := by decide +kernel
theorem dX7_worthBehindOthers_39 : decode cX7_worthBehindOthers 39 = .ok (.goto (-24), 3) := by decide +kernel
theorem dX7_worthBehindOthers_42 : decode cX7_worthBehindOthers 42 = .ok (.iconst 0, 1) := by decide +kernel
theorem dX7_worthBehindOthers_43 : decode cX7_worthBehindOthers 43 = .ok (.istore_n 3, 1) := by decide +kernel
theorem dX7_worthBehindOthers_44 : decode cX7_worthBehindOthers 44 = .ok (.iload_n 3, 1) := by decide +kernel
theorem dX7_worthBehindOthers_45 : decode cX7_worthBehindOthers 45 = .ok (.iload_n 2, 1) := by decide +kernel
theorem dX7_worthBehindOthers_46 : decode cX7_worthBehindOthers 46 = .ok (.if_icmp .ge 19, 3) := by decide +kernel
theorem dX7_worthBehindOthers_49 : decode cX7_worthBehindOthers 49 = .ok (.aload_n 0, 1) := by decide +kernel
theorem dX7_worthBehindOthers_50 : decode cX7_worthBehindOthers 50 = .ok (.getfield 32, 3) := by decide +kernel
theorem dX7_worthBehindOthers_53 : decode cX7_worthBehindOthers 53 = .ok (.iload_n 1, 1) := by decide +kernel
theorem dX7_worthBehindOthers_54 : decode cX7_worthBehindOthers 54 = .ok (.iload_n 3, 1) := by decide +kernel
theorem dX7_worthBehindOthers_55 : decode cX7_worthBehindOthers 55 = .ok (.invokevirtual 184, 3) := by decide +kernel
theorem dX7_worthBehindOthers_58 : decode cX7_worthBehindOthers 58 = .ok (.pop, 1) := by decide +kernel
theorem dX7_worthBehindOthers_59 : decode cX7_worthBehindOthers 59 = .ok (.iinc 3 1, 3) := by decide +kernel
theorem dX7_worthBehindOthers_62 : decode cX7_worthBehindOthers 62 = .ok (.goto (-18), 3) := by decide +kernel
theorem dX7_worthBehindOthers_65 : decode cX7_worthBehindOthers 65 = .ok (.aload_n 0, 1) := by decide +kernel
theorem dX7_worthBehindOthers_66 : decode cX7_worthBehindOthers 66 = .ok (.getfield 32, 3) := by decide +kernel
theorem dX7_worthBehindOthers_69 : decode cX7_worthBehindOthers 69 = .ok (.iload_n 1, 1) := by decide +kernel
theorem dX7_worthBehindOthers_70 : decode cX7_worthBehindOthers 70 = .ok (.iload_n 2, 1) := by decide +kernel
theorem dX7_worthBehindOthers_71 : decode cX7_worthBehindOthers 71 = .ok (.invokevirtual 181, 3) := by decide +kernel
theorem dX7_worthBehindOthers_74 : decode cX7_worthBehindOthers 74 = .ok (.ireturn, 1) := by decide +kernel
theorem dX7_caught_0 : decode cX7_caught 0 = .ok (.aload_n 0, 1) := by decide +kernel
theorem dX7_caught_1 : decode cX7_caught 1 = .ok (.getfield 28, 3) := by decide +kernel
theorem dX7_caught_4 : decode cX7_caught 4 = .ok (.iload_n 1, 1) := by decide +kernel
theorem dX7_caught_5 : decode cX7_caught 5 = .ok (.invokevirtual 168, 3) := by decide +kernel
theorem dX7_caught_8 : decode cX7_caught 8 = .ok (.ifCond .eq 13, 3) := by decide +kernel
theorem dX7_caught_11 : decode cX7_caught 11 = .ok (.iload_n 2, 1) := by decide +kernel
theorem dX7_caught_12 : decode cX7_caught 12 = .ok (.iconst 0, 1) := by decide +kernel
theorem dX7_caught_13 : decode cX7_caught 13 = .ok (.bipush 9, 2) := by decide +kernel
theorem dX7_caught_15 : decode cX7_caught 15 = .ok (.invokestatic 116, 3) := by decide +kernel
theorem dX7_caught_18 : decode cX7_caught 18 = .ok (.ifCond .ne 6, 3) := by decide +kernel
theorem dX7_caught_21 : decode cX7_caught 21 = .ok (.bipush (-2), 2) := by decide +kernel
theorem dX7_caught_23 : decode cX7_caught 23 = .ok (.ireturn, 1) := by decide +kernel
theorem dX7_caught_24 : decode cX7_caught 24 = .ok (.iload_n 1, 1) := by decide +kernel
theorem dX7_caught_25 : decode cX7_caught 25 = .ok (.istore_n 3, 1) := by decide +kernel
theorem dX7_caught_26 : decode cX7_caught 26 = .ok (.iconst 0, 1) := by decide +kernel
theorem dX7_caught_27 : decode cX7_caught 27 = .ok (.istore 4, 2) := by decide +kernel
theorem dX7_caught_29 : decode cX7_caught 29 = .ok (.iload 4, 2) := by decide +kernel
theorem dX7_caught_31 : decode cX7_caught 31 = .ok (.iload_n 2, 1) := by decide +kernel
theorem dX7_caught_32 : decode cX7_caught 32 = .ok (.if_icmp .ge 25, 3) := by decide +kernel
theorem dX7_caught_35 : decode cX7_caught 35 = .ok (.aload_n 0, 1) := by decide +kernel
theorem dX7_caught_36 : decode cX7_caught 36 = .ok (.getfield 28, 3) := by decide +kernel
theorem dX7_caught_39 : decode cX7_caught 39 = .ok (.iload_n 3, 1) := by decide +kernel
theorem dX7_caught_40 : decode cX7_caught 40 = .ok (.aload_n 0, 1) := by decide +kernel
theorem dX7_caught_41 : decode cX7_caught 41 = .ok (.getfield 28, 3) := by decide +kernel
theorem dX7_caught_44 : decode cX7_caught 44 = .ok (.invokevirtual 218, 3) := by decide +kernel
theorem dX7_caught_47 : decode cX7_caught 47 = .ok (.invokevirtual 221, 3) := by decide +kernel
theorem dX7_caught_50 : decode cX7_caught 50 = .ok (.istore_n 3, 1) := by decide +kernel
theorem dX7_caught_51 : decode cX7_caught 51 = .ok (.iinc 4 1, 3) := by decide +kernel
theorem dX7_caught_54 : decode cX7_caught 54 = .ok (.goto (-25), 3) := by decide +kernel
theorem dX7_caught_57 : decode cX7_caught 57 = .ok (.iload_n 3, 1) := by decide +kernel
theorem dX7_caught_58 : decode cX7_caught 58 = .ok (.ireturn, 1) := by decide +kernel
theorem dX7_panic_0 : decode cX7_panic 0 = .ok (.aload_n 0, 1) := by decide +kernel
theorem dX7_panic_1 : decode cX7_panic 1 = .ok (.getfield 28, 3) := by decide +kernel
theorem dX7_panic_4 : decode cX7_panic 4 = .ok (.iload_n 1, 1) := by decide +kernel
theorem dX7_panic_5 : decode cX7_panic 5 = .ok (.invokevirtual 168, 3) := by decide +kernel
theorem dX7_panic_8 : decode cX7_panic 8 = .ok (.ifCond .eq 12, 3) := by decide +kernel
theorem dX7_panic_11 : decode cX7_panic 11 = .ok (.iload_n 2, 1) := by decide +kernel
theorem dX7_panic_12 : decode cX7_panic 12 = .ok (.iconst 0, 1) := by decide +kernel
theorem dX7_panic_13 : decode cX7_panic 13 = .ok (.iconst 1, 1) := by decide +kernel
theorem dX7_panic_14 : decode cX7_panic 14 = .ok (.invokestatic 116, 3) := by decide +kernel
theorem dX7_panic_17 : decode cX7_panic 17 = .ok (.ifCond .ne 6, 3) := by decide +kernel
theorem dX7_panic_20 : decode cX7_panic 20 = .ok (.bipush (-2), 2) := by decide +kernel
theorem dX7_panic_22 : decode cX7_panic 22 = .ok (.ireturn, 1) := by decide +kernel
theorem dX7_panic_23 : decode cX7_panic 23 = .ok (.iload_n 2, 1) := by decide +kernel
theorem dX7_panic_24 : decode cX7_panic 24 = .ok (.ifCond .ne 21, 3) := by decide +kernel
theorem dX7_panic_27 : decode cX7_panic 27 = .ok (.aload_n 0, 1) := by decide +kernel
theorem dX7_panic_28 : decode cX7_panic 28 = .ok (.getfield 28, 3) := by decide +kernel
theorem dX7_panic_31 : decode cX7_panic 31 = .ok (.iload_n 1, 1) := by decide +kernel
theorem dX7_panic_32 : decode cX7_panic 32 = .ok (.aload_n 0, 1) := by decide +kernel
theorem dX7_panic_33 : decode cX7_panic 33 = .ok (.getfield 28, 3) := by decide +kernel
theorem dX7_panic_36 : decode cX7_panic 36 = .ok (.invokevirtual 218, 3) := by decide +kernel
theorem dX7_panic_39 : decode cX7_panic 39 = .ok (.invokevirtual 224, 3) := by decide +kernel
theorem dX7_panic_42 : decode cX7_panic 42 = .ok (.goto 18, 3) := by decide +kernel
theorem dX7_panic_45 : decode cX7_panic 45 = .ok (.aload_n 0, 1) := by decide +kernel
theorem dX7_panic_46 : decode cX7_panic 46 = .ok (.getfield 28, 3) := by decide +kernel
theorem dX7_panic_49 : decode cX7_panic 49 = .ok (.iload_n 1, 1) := by decide +kernel
theorem dX7_panic_50 : decode cX7_panic 50 = .ok (.aload_n 0, 1) := by decide +kernel
theorem dX7_panic_51 : decode cX7_panic 51 = .ok (.getfield 28, 3) := by decide +kernel
theorem dX7_panic_54 : decode cX7_panic 54 = .ok (.invokevirtual 218, 3) := by decide +kernel
theorem dX7_panic_57 : decode cX7_panic 57 = .ok (.invokevirtual 227, 3) := by decide +kernel
theorem dX7_panic_60 : decode cX7_panic 60 = .ok (.ireturn, 1) := by decide +kernel
theorem dX7_seeds_0 : decode cX7_seeds 0 = .ok (.iload_n 1, 1) := by decide +kernel
theorem dX7_seeds_1 : decode cX7_seeds 1 = .ok (.iconst 0, 1) := by decide +kernel
theorem dX7_seeds_2 : decode cX7_seeds 2 = .ok (.iconst 1, 1) := by decide +kernel
theorem dX7_seeds_3 : decode cX7_seeds 3 = .ok (.invokestatic 116, 3) := by decide +kernel
theorem dX7_seeds_6 : decode cX7_seeds 6 = .ok (.ifCond .ne 6, 3) := by decide +kernel
theorem dX7_seeds_9 : decode cX7_seeds 9 = .ok (.bipush (-2), 2) := by decide +kernel
theorem dX7_seeds_11 : decode cX7_seeds 11 = .ok (.ireturn, 1) := by decide +kernel
theorem dX7_seeds_12 : decode cX7_seeds 12 = .ok (.aload_n 0, 1) := by decide +kernel
theorem dX7_seeds_13 : decode cX7_seeds 13 = .ok (.getfield 28, 3) := by decide +kernel
theorem dX7_seeds_16 : decode cX7_seeds 16 = .ok (.invokevirtual 218, 3) := by decide +kernel
theorem dX7_seeds_19 : decode cX7_seeds 19 = .ok (.istore_n 2, 1) := by decide +kernel
theorem dX7_seeds_20 : decode cX7_seeds 20 = .ok (.iload_n 2, 1) := by decide +kernel
theorem dX7_seeds_21 : decode cX7_seeds 21 = .ok (.istore_n 3, 1) := by decide +kernel
theorem dX7_seeds_22 : decode cX7_seeds 22 = .ok (.iconst 0, 1) := by decide +kernel
theorem dX7_seeds_23 : decode cX7_seeds 23 = .ok (.istore 4, 2) := by decide +kernel
theorem dX7_seeds_25 : decode cX7_seeds 25 = .ok (.iload 4, 2) := by decide +kernel
theorem dX7_seeds_27 : decode cX7_seeds 27 = .ok (.iload_n 2, 1) := by decide +kernel
theorem dX7_seeds_28 : decode cX7_seeds 28 = .ok (.if_icmp .ge 38, 3) := by decide +kernel
theorem dX7_seeds_31 : decode cX7_seeds 31 = .ok (.iload 4, 2) := by decide +kernel
theorem dX7_seeds_33 : decode cX7_seeds 33 = .ok (.invokestatic 230, 3) := by decide +kernel
theorem dX7_seeds_36 : decode cX7_seeds 36 = .ok (.iload_n 3, 1) := by decide +kernel
theorem dX7_seeds_37 : decode cX7_seeds 37 = .ok (.invokestatic 230, 3) := by decide +kernel
theorem dX7_seeds_40 : decode cX7_seeds 40 = .ok (.if_icmp .ge 20, 3) := by decide +kernel
theorem dX7_seeds_43 : decode cX7_seeds 43 = .ok (.aload_n 0, 1) := by decide +kernel
theorem dX7_seeds_44 : decode cX7_seeds 44 = .ok (.getfield 28, 3) := by decide +kernel
theorem dX7_seeds_47 : decode cX7_seeds 47 = .ok (.iload 4, 2) := by decide +kernel
theorem dX7_seeds_49 : decode cX7_seeds 49 = .ok (.iload_n 2, 1) := by decide +kernel
theorem dX7_seeds_50 : decode cX7_seeds 50 = .ok (.invokevirtual 224, 3) := by decide +kernel
theorem dX7_seeds_53 : decode cX7_seeds 53 = .ok (.iload_n 2, 1) := by decide +kernel
theorem dX7_seeds_54 : decode cX7_seeds 54 = .ok (.if_icmp .ne 6, 3) := by decide +kernel
theorem dX7_seeds_57 : decode cX7_seeds 57 = .ok (.iload 4, 2) := by decide +kernel
theorem dX7_seeds_59 : decode cX7_seeds 59 = .ok (.istore_n 3, 1) := by decide +kernel
theorem dX7_seeds_60 : decode cX7_seeds 60 = .ok (.iinc 4 1, 3) := by decide +kernel
theorem dX7_seeds_63 : decode cX7_seeds 63 = .ok (.goto (-38), 3) := by decide +kernel
theorem dX7_seeds_66 : decode cX7_seeds 66 = .ok (.iload_n 1, 1) := by decide +kernel
theorem dX7_seeds_67 : decode cX7_seeds 67 = .ok (.ifCond .ne 7, 3) := by decide +kernel
theorem dX7_seeds_70 : decode cX7_seeds 70 = .ok (.iload_n 3, 1) := by decide +kernel
theorem dX7_seeds_71 : decode cX7_seeds 71 = .ok (.goto 7, 3) := by decide +kernel
theorem dX7_seeds_74 : decode cX7_seeds 74 = .ok (.iload_n 3, 1) := by decide +kernel
theorem dX7_seeds_75 : decode cX7_seeds 75 = .ok (.invokestatic 230, 3) := by decide +kernel
theorem dX7_seeds_78 : decode cX7_seeds 78 = .ok (.ireturn, 1) := by decide +kernel
theorem dX7_stop_0 : decode cX7_stop 0 = .ok (.aload_n 0, 1) := by decide +kernel
theorem dX7_stop_1 : decode cX7_stop 1 = .ok (.getfield 28, 3) := by decide +kernel
theorem dX7_stop_4 : decode cX7_stop 4 = .ok (.iload_n 1, 1) := by decide +kernel
theorem dX7_stop_5 : decode cX7_stop 5 = .ok (.invokevirtual 168, 3) := by decide +kernel
theorem dX7_stop_8 : decode cX7_stop 8 = .ok (.ifCond .eq 13, 3) := by decide +kernel
theorem dX7_stop_11 : decode cX7_stop 11 = .ok (.iload_n 2, 1) := by decide +kernel
theorem dX7_stop_12 : decode cX7_stop 12 = .ok (.iconst 0, 1) := by decide +kernel
theorem dX7_stop_13 : decode cX7_stop 13 = .ok (.bipush 6, 2) := by decide +kernel
theorem dX7_stop_15 : decode cX7_stop 15 = .ok (.invokestatic 116, 3) := by decide +kernel
theorem dX7_stop_18 : decode cX7_stop 18 = .ok (.ifCond .ne 6, 3) := by decide +kernel
theorem dX7_stop_21 : decode cX7_stop 21 = .ok (.bipush (-2), 2) := by decide +kernel
theorem dX7_stop_23 : decode cX7_stop 23 = .ok (.ireturn, 1) := by decide +kernel
theorem dX7_stop_24 : decode cX7_stop 24 = .ok (.aload_n 0, 1) := by decide +kernel
theorem dX7_stop_25 : decode cX7_stop 25 = .ok (.getfield 28, 3) := by decide +kernel
theorem dX7_stop_28 : decode cX7_stop 28 = .ok (.invokevirtual 218, 3) := by decide +kernel
theorem dX7_stop_31 : decode cX7_stop 31 = .ok (.istore_n 3, 1) := by decide +kernel
theorem dX7_stop_32 : decode cX7_stop 32 = .ok (.iconst (-1), 1) := by decide +kernel
theorem dX7_stop_33 : decode cX7_stop 33 = .ok (.istore 4, 2) := by decide +kernel
theorem dX7_stop_35 : decode cX7_stop 35 = .ok (.iconst 0, 1) := by decide +kernel
theorem dX7_stop_36 : decode cX7_stop 36 = .ok (.istore 5, 2) := by decide +kernel
theorem dX7_stop_38 : decode cX7_stop 38 = .ok (.iload 5, 2) := by decide +kernel
theorem dX7_stop_40 : decode cX7_stop 40 = .ok (.iload_n 3, 1) := by decide +kernel
theorem dX7_stop_41 : decode cX7_stop 41 = .ok (.if_icmp .gt 72, 3) := by decide +kernel
theorem dX7_stop_44 : decode cX7_stop 44 = .ok (.iload 4, 2) := by decide +kernel
theorem dX7_stop_46 : decode cX7_stop 46 = .ok (.iconst (-1), 1) := by decide +kernel
theorem dX7_stop_47 : decode cX7_stop 47 = .ok (.if_icmp .eq 16, 3) := by decide +kernel
theorem dX7_stop_50 : decode cX7_stop 50 = .ok (.iload 5, 2) := by decide +kernel
theorem dX7_stop_52 : decode cX7_stop 52 = .ok (.invokestatic 230, 3) := by decide +kernel
theorem dX7_stop_55 : decode cX7_stop 55 = .ok (.iload 4, 2) := by decide +kernel
theorem dX7_stop_57 : decode cX7_stop 57 = .ok (.invokestatic 230, 3) := by decide +kernel
theorem dX7_stop_60 : decode cX7_stop 60 = .ok (.if_icmp .ge 7, 3) := by decide +kernel
theorem dX7_stop_63 : decode cX7_stop 63 = .ok (.iconst 1, 1) := by decide +kernel
theorem dX7_stop_64 : decode cX7_stop 64 = .ok (.goto 4, 3) := by decide +kernel
theorem dX7_stop_67 : decode cX7_stop 67 = .ok (.iconst 0, 1) := by decide +kernel
theorem dX7_stop_68 : decode cX7_stop 68 = .ok (.istore 6, 2) := by decide +kernel
theorem dX7_stop_70 : decode cX7_stop 70 = .ok (.iload 6, 2) := by decide +kernel
theorem dX7_stop_72 : decode cX7_stop 72 = .ok (.ifCond .eq 35, 3) := by decide +kernel
theorem dX7_stop_75 : decode cX7_stop 75 = .ok (.iload 5, 2) := by decide +kernel
theorem dX7_stop_77 : decode cX7_stop 77 = .ok (.iload_n 1, 1) := by decide +kernel
theorem dX7_stop_78 : decode cX7_stop 78 = .ok (.iand, 1) := by decide +kernel
theorem dX7_stop_79 : decode cX7_stop 79 = .ok (.ifCond .ne 28, 3) := by decide +kernel
theorem dX7_stop_82 : decode cX7_stop 82 = .ok (.aload_n 0, 1) := by decide +kernel
theorem dX7_stop_83 : decode cX7_stop 83 = .ok (.getfield 28, 3) := by decide +kernel
theorem dX7_stop_86 : decode cX7_stop 86 = .ok (.iload_n 1, 1) := by decide +kernel
theorem dX7_stop_87 : decode cX7_stop 87 = .ok (.iload_n 3, 1) := by decide +kernel
theorem dX7_stop_88 : decode cX7_stop 88 = .ok (.iload 5, 2) := by decide +kernel
theorem dX7_stop_90 : decode cX7_stop 90 = .ok (.iconst (-1), 1) := by decide +kernel
theorem dX7_stop_91 : decode cX7_stop 91 = .ok (.ixor, 1) := by decide +kernel
theorem dX7_stop_92 : decode cX7_stop 92 = .ok (.iand, 1) := by decide +kernel
theorem dX7_stop_93 : decode cX7_stop 93 = .ok (.invokevirtual 224, 3) := by decide +kernel
theorem dX7_stop_96 : decode cX7_stop 96 = .ok (.invokestatic 230, 3) := by decide +kernel
theorem dX7_stop_99 : decode cX7_stop 99 = .ok (.iload_n 2, 1) := by decide +kernel
theorem dX7_stop_100 : decode cX7_stop 100 = .ok (.if_icmp .gt 7, 3) := by decide +kernel
theorem dX7_stop_103 : decode cX7_stop 103 = .ok (.iload 5, 2) := by decide +kernel
theorem dX7_stop_105 : decode cX7_stop 105 = .ok (.istore 4, 2) := by decide +kernel
theorem dX7_stop_107 : decode cX7_stop 107 = .ok (.iinc 5 1, 3) := by decide +kernel
theorem dX7_stop_110 : decode cX7_stop 110 = .ok (.goto (-72), 3) := by decide +kernel
theorem dX7_stop_113 : decode cX7_stop 113 = .ok (.iload 4, 2) := by decide +kernel
theorem dX7_stop_115 : decode cX7_stop 115 = .ok (.ireturn, 1) := by decide +kernel
theorem dX7_spread_0 : decode cX7_spread 0 = .ok (.aload_n 0, 1) := by decide +kernel
theorem dX7_spread_1 : decode cX7_spread 1 = .ok (.getfield 28, 3) := by decide +kernel
theorem dX7_spread_4 : decode cX7_spread 4 = .ok (.iload_n 1, 1) := by decide +kernel
theorem dX7_spread_5 : decode cX7_spread 5 = .ok (.invokevirtual 138, 3) := by decide +kernel
theorem dX7_spread_8 : decode cX7_spread 8 = .ok (.ifCond .ne 6, 3) := by decide +kernel
theorem dX7_spread_11 : decode cX7_spread 11 = .ok (.bipush (-5), 2) := by decide +kernel
theorem dX7_spread_13 : decode cX7_spread 13 = .ok (.ireturn, 1) := by decide +kernel
theorem dX7_spread_14 : decode cX7_spread 14 = .ok (.aload_n 0, 1) := by decide +kernel
theorem dX7_spread_15 : decode cX7_spread 15 = .ok (.getfield 28, 3) := by decide +kernel
theorem dX7_spread_18 : decode cX7_spread 18 = .ok (.iload_n 2, 1) := by decide +kernel
theorem dX7_spread_19 : decode cX7_spread 19 = .ok (.invokevirtual 168, 3) := by decide +kernel
theorem dX7_spread_22 : decode cX7_spread 22 = .ok (.ifCond .eq 13, 3) := by decide +kernel
theorem dX7_spread_25 : decode cX7_spread 25 = .ok (.iload_n 3, 1) := by decide +kernel
theorem dX7_spread_26 : decode cX7_spread 26 = .ok (.iconst 0, 1) := by decide +kernel
theorem dX7_spread_27 : decode cX7_spread 27 = .ok (.bipush 20, 2) := by decide +kernel
theorem dX7_spread_29 : decode cX7_spread 29 = .ok (.invokestatic 116, 3) := by decide +kernel
theorem dX7_spread_32 : decode cX7_spread 32 = .ok (.ifCond .ne 6, 3) := by decide +kernel
theorem dX7_spread_35 : decode cX7_spread 35 = .ok (.bipush (-7), 2) := by decide +kernel
theorem dX7_spread_37 : decode cX7_spread 37 = .ok (.ireturn, 1) := by decide +kernel
theorem dX7_spread_38 : decode cX7_spread 38 = .ok (.aload_n 0, 1) := by decide +kernel
theorem dX7_spread_39 : decode cX7_spread 39 = .ok (.getfield 28, 3) := by decide +kernel
theorem dX7_spread_42 : decode cX7_spread 42 = .ok (.iload_n 1, 1) := by decide +kernel
theorem dX7_spread_43 : decode cX7_spread 43 = .ok (.iload_n 2, 1) := by decide +kernel
theorem dX7_spread_44 : decode cX7_spread 44 = .ok (.iload_n 3, 1) := by decide +kernel
theorem dX7_spread_45 : decode cX7_spread 45 = .ok (.invokevirtual 235, 3) := by decide +kernel
theorem dX7_spread_48 : decode cX7_spread 48 = .ok (.ireturn, 1) := by decide +kernel
theorem dX7_through_0 : decode cX7_through 0 = .ok (.aload_n 0, 1) := by decide +kernel
theorem dX7_through_1 : decode cX7_through 1 = .ok (.iload_n 1, 1) := by decide +kernel
theorem dX7_through_2 : decode cX7_through 2 = .ok (.iload_n 2, 1) := by decide +kernel
theorem dX7_through_3 : decode cX7_through 3 = .ok (.invokevirtual 178, 3) := by decide +kernel
theorem dX7_through_6 : decode cX7_through 6 = .ok (.istore_n 3, 1) := by decide +kernel
theorem dX7_through_7 : decode cX7_through 7 = .ok (.iload_n 3, 1) := by decide +kernel
theorem dX7_through_8 : decode cX7_through 8 = .ok (.ifCond .eq 5, 3) := by decide +kernel
theorem dX7_through_11 : decode cX7_through 11 = .ok (.iload_n 3, 1) := by decide +kernel
theorem dX7_through_12 : decode cX7_through 12 = .ok (.ireturn, 1) := by decide +kernel
theorem dX7_through_13 : decode cX7_through 13 = .ok (.iconst 0, 1) := by decide +kernel
theorem dX7_through_14 : decode cX7_through 14 = .ok (.istore 4, 2) := by decide +kernel
theorem dX7_through_16 : decode cX7_through 16 = .ok (.iload 4, 2) := by decide +kernel
theorem dX7_through_18 : decode cX7_through 18 = .ok (.bipush 6, 2) := by decide +kernel
theorem dX7_through_20 : decode cX7_through 20 = .ok (.if_icmp .gt 35, 3) := by decide +kernel
theorem dX7_through_23 : decode cX7_through 23 = .ok (.aload_n 0, 1) := by decide +kernel
theorem dX7_through_24 : decode cX7_through 24 = .ok (.getfield 28, 3) := by decide +kernel
theorem dX7_through_27 : decode cX7_through 27 = .ok (.iload_n 1, 1) := by decide +kernel
theorem dX7_through_28 : decode cX7_through 28 = .ok (.iconst 1, 1) := by decide +kernel
theorem dX7_through_29 : decode cX7_through 29 = .ok (.iload_n 2, 1) := by decide +kernel
theorem dX7_through_30 : decode cX7_through 30 = .ok (.ishl, 1) := by decide +kernel
theorem dX7_through_31 : decode cX7_through 31 = .ok (.iload 4, 2) := by decide +kernel
theorem dX7_through_33 : decode cX7_through 33 = .ok (.invokevirtual 235, 3) := by decide +kernel
theorem dX7_through_36 : decode cX7_through 36 = .ok (.aload_n 0, 1) := by decide +kernel
theorem dX7_through_37 : decode cX7_through 37 = .ok (.getfield 28, 3) := by decide +kernel
theorem dX7_through_40 : decode cX7_through 40 = .ok (.invokevirtual 218, 3) := by decide +kernel
theorem dX7_through_43 : decode cX7_through 43 = .ok (.if_icmp .ne 6, 3) := by decide +kernel
theorem dX7_through_46 : decode cX7_through 46 = .ok (.iload 4, 2) := by decide +kernel
theorem dX7_through_48 : decode cX7_through 48 = .ok (.ireturn, 1) := by decide +kernel
theorem dX7_through_49 : decode cX7_through 49 = .ok (.iinc 4 1, 3) := by decide +kernel
theorem dX7_through_52 : decode cX7_through 52 = .ok (.goto (-36), 3) := by decide +kernel
theorem dX7_through_55 : decode cX7_through 55 = .ok (.iconst (-1), 1) := by decide +kernel
theorem dX7_through_56 : decode cX7_through 56 = .ok (.ireturn, 1) := by decide +kernel
theorem dX7_origin_0 : decode cX7_origin 0 = .ok (.aload_n 0, 1) := by decide +kernel
theorem dX7_origin_1 : decode cX7_origin 1 = .ok (.getfield 28, 3) := by decide +kernel
theorem dX7_origin_4 : decode cX7_origin 4 = .ok (.iload_n 1, 1) := by decide +kernel
theorem dX7_origin_5 : decode cX7_origin 5 = .ok (.invokevirtual 138, 3) := by decide +kernel
theorem dX7_origin_8 : decode cX7_origin 8 = .ok (.ifCond .ne 6, 3) := by decide +kernel
theorem dX7_origin_11 : decode cX7_origin 11 = .ok (.bipush (-5), 2) := by decide +kernel
theorem dX7_origin_13 : decode cX7_origin 13 = .ok (.ireturn, 1) := by decide +kernel
theorem dX7_origin_14 : decode cX7_origin 14 = .ok (.aload_n 0, 1) := by decide +kernel
theorem dX7_origin_15 : decode cX7_origin 15 = .ok (.getfield 28, 3) := by decide +kernel
theorem dX7_origin_18 : decode cX7_origin 18 = .ok (.iload_n 2, 1) := by decide +kernel
theorem dX7_origin_19 : decode cX7_origin 19 = .ok (.invokevirtual 168, 3) := by decide +kernel
theorem dX7_origin_22 : decode cX7_origin 22 = .ok (.ifCond .eq 13, 3) := by decide +kernel
theorem dX7_origin_25 : decode cX7_origin 25 = .ok (.iload_n 3, 1) := by decide +kernel
theorem dX7_origin_26 : decode cX7_origin 26 = .ok (.iconst 0, 1) := by decide +kernel
theorem dX7_origin_27 : decode cX7_origin 27 = .ok (.bipush 20, 2) := by decide +kernel
theorem dX7_origin_29 : decode cX7_origin 29 = .ok (.invokestatic 116, 3) := by decide +kernel
theorem dX7_origin_32 : decode cX7_origin 32 = .ok (.ifCond .ne 6, 3) := by decide +kernel
theorem dX7_origin_35 : decode cX7_origin 35 = .ok (.bipush (-7), 2) := by decide +kernel
theorem dX7_origin_37 : decode cX7_origin 37 = .ok (.ireturn, 1) := by decide +kernel
theorem dX7_origin_38 : decode cX7_origin 38 = .ok (.iconst 0, 1) := by decide +kernel
theorem dX7_origin_39 : decode cX7_origin 39 = .ok (.istore 4, 2) := by decide +kernel
theorem dX7_origin_41 : decode cX7_origin 41 = .ok (.iconst 0, 1) := by decide +kernel
theorem dX7_origin_42 : decode cX7_origin 42 = .ok (.istore 5, 2) := by decide +kernel
theorem dX7_origin_44 : decode cX7_origin 44 = .ok (.iload 5, 2) := by decide +kernel
theorem dX7_origin_46 : decode cX7_origin 46 = .ok (.aload_n 0, 1) := by decide +kernel
theorem dX7_origin_47 : decode cX7_origin 47 = .ok (.getfield 28, 3) := by decide +kernel
theorem dX7_origin_50 : decode cX7_origin 50 = .ok (.getfield 103, 3) := by decide +kernel
theorem dX7_origin_53 : decode cX7_origin 53 = .ok (.if_icmp .ge 35, 3) := by decide +kernel
theorem dX7_origin_56 : decode cX7_origin 56 = .ok (.aload_n 0, 1) := by decide +kernel
theorem dX7_origin_57 : decode cX7_origin 57 = .ok (.getfield 28, 3) := by decide +kernel
theorem dX7_origin_60 : decode cX7_origin 60 = .ok (.iload_n 1, 1) := by decide +kernel
theorem dX7_origin_61 : decode cX7_origin 61 = .ok (.iconst 1, 1) := by decide +kernel
theorem dX7_origin_62 : decode cX7_origin 62 = .ok (.iload 5, 2) := by decide +kernel
theorem dX7_origin_64 : decode cX7_origin 64 = .ok (.ishl, 1) := by decide +kernel
theorem dX7_origin_65 : decode cX7_origin 65 = .ok (.iload_n 3, 1) := by decide +kernel
theorem dX7_origin_66 : decode cX7_origin 66 = .ok (.invokevirtual 235, 3) := by decide +kernel
theorem dX7_origin_69 : decode cX7_origin 69 = .ok (.iload_n 2, 1) := by decide +kernel
theorem dX7_origin_70 : decode cX7_origin 70 = .ok (.if_icmp .ne 12, 3) := by decide +kernel
theorem dX7_origin_73 : decode cX7_origin 73 = .ok (.iload 4, 2) := by decide +kernel
theorem dX7_origin_75 : decode cX7_origin 75 = .ok (.iconst 1, 1) := by decide +kernel
theorem dX7_origin_76 : decode cX7_origin 76 = .ok (.iload 5, 2) := by decide +kernel
theorem dX7_origin_78 : decode cX7_origin 78 = .ok (.ishl, 1) := by decide +kernel
theorem dX7_origin_79 : decode cX7_origin 79 = .ok (.ior, 1) := by decide +kernel
theorem dX7_origin_80 : decode cX7_origin 80 = .ok (.istore 4, 2) := by decide +kernel
theorem dX7_origin_82 : decode cX7_origin 82 = .ok (.iinc 5 1, 3) := by decide +kernel
theorem dX7_origin_85 : decode cX7_origin 85 = .ok (.goto (-41), 3) := by decide +kernel
theorem dX7_origin_88 : decode cX7_origin 88 = .ok (.iload 4, 2) := by decide +kernel
theorem dX7_origin_90 : decode cX7_origin 90 = .ok (.ireturn, 1) := by decide +kernel
theorem dX7_furthest_0 : decode cX7_furthest 0 = .ok (.aload_n 0, 1) := by decide +kernel
theorem dX7_furthest_1 : decode cX7_furthest 1 = .ok (.getfield 28, 3) := by decide +kernel
theorem dX7_furthest_4 : decode cX7_furthest 4 = .ok (.iload_n 1, 1) := by decide +kernel
theorem dX7_furthest_5 : decode cX7_furthest 5 = .ok (.invokevirtual 138, 3) := by decide +kernel
theorem dX7_furthest_8 : decode cX7_furthest 8 = .ok (.ifCond .ne 6, 3) := by decide +kernel
theorem dX7_furthest_11 : decode cX7_furthest 11 = .ok (.bipush (-5), 2) := by decide +kernel
theorem dX7_furthest_13 : decode cX7_furthest 13 = .ok (.ireturn, 1) := by decide +kernel
theorem dX7_furthest_14 : decode cX7_furthest 14 = .ok (.iload_n 2, 1) := by decide +kernel
theorem dX7_furthest_15 : decode cX7_furthest 15 = .ok (.iconst 0, 1) := by decide +kernel
theorem dX7_furthest_16 : decode cX7_furthest 16 = .ok (.bipush 20, 2) := by decide +kernel
theorem dX7_furthest_18 : decode cX7_furthest 18 = .ok (.invokestatic 116, 3) := by decide +kernel
theorem dX7_furthest_21 : decode cX7_furthest 21 = .ok (.ifCond .eq 12, 3) := by decide +kernel
theorem dX7_furthest_24 : decode cX7_furthest 24 = .ok (.iload_n 3, 1) := by decide +kernel
theorem dX7_furthest_25 : decode cX7_furthest 25 = .ok (.iconst 0, 1) := by decide +kernel
theorem dX7_furthest_26 : decode cX7_furthest 26 = .ok (.iconst 1, 1) := by decide +kernel
theorem dX7_furthest_27 : decode cX7_furthest 27 = .ok (.invokestatic 116, 3) := by decide +kernel
theorem dX7_furthest_30 : decode cX7_furthest 30 = .ok (.ifCond .ne 6, 3) := by decide +kernel
theorem dX7_furthest_33 : decode cX7_furthest 33 = .ok (.bipush (-7), 2) := by decide +kernel
theorem dX7_furthest_35 : decode cX7_furthest 35 = .ok (.ireturn, 1) := by decide +kernel
theorem dX7_furthest_36 : decode cX7_furthest 36 = .ok (.iconst (-1), 1) := by decide +kernel
theorem dX7_furthest_37 : decode cX7_furthest 37 = .ok (.istore 4, 2) := by decide +kernel
theorem dX7_furthest_39 : decode cX7_furthest 39 = .ok (.iconst (-1), 1) := by decide +kernel
theorem dX7_furthest_40 : decode cX7_furthest 40 = .ok (.istore 5, 2) := by decide +kernel
theorem dX7_furthest_42 : decode cX7_furthest 42 = .ok (.iconst 0, 1) := by decide +kernel
theorem dX7_furthest_43 : decode cX7_furthest 43 = .ok (.istore 6, 2) := by decide +kernel
theorem dX7_furthest_45 : decode cX7_furthest 45 = .ok (.iload 6, 2) := by decide +kernel
theorem dX7_furthest_47 : decode cX7_furthest 47 = .ok (.aload_n 0, 1) := by decide +kernel
theorem dX7_furthest_48 : decode cX7_furthest 48 = .ok (.getfield 28, 3) := by decide +kernel
theorem dX7_furthest_51 : decode cX7_furthest 51 = .ok (.getfield 103, 3) := by decide +kernel
theorem dX7_furthest_54 : decode cX7_furthest 54 = .ok (.if_icmp .ge 42, 3) := by decide +kernel
theorem dX7_furthest_57 : decode cX7_furthest 57 = .ok (.aload_n 0, 1) := by decide +kernel
theorem dX7_furthest_58 : decode cX7_furthest 58 = .ok (.getfield 28, 3) := by decide +kernel
theorem dX7_furthest_61 : decode cX7_furthest 61 = .ok (.iload_n 1, 1) := by decide +kernel
theorem dX7_furthest_62 : decode cX7_furthest 62 = .ok (.iconst 1, 1) := by decide +kernel
theorem dX7_furthest_63 : decode cX7_furthest 63 = .ok (.iload 6, 2) := by decide +kernel
theorem dX7_furthest_65 : decode cX7_furthest 65 = .ok (.ishl, 1) := by decide +kernel
theorem dX7_furthest_66 : decode cX7_furthest 66 = .ok (.iload_n 2, 1) := by decide +kernel
theorem dX7_furthest_67 : decode cX7_furthest 67 = .ok (.invokevirtual 235, 3) := by decide +kernel
theorem dX7_furthest_70 : decode cX7_furthest 70 = .ok (.invokestatic 230, 3) := by decide +kernel
theorem dX7_furthest_73 : decode cX7_furthest 73 = .ok (.istore 7, 2) := by decide +kernel
theorem dX7_furthest_75 : decode cX7_furthest 75 = .ok (.iload 7, 2) := by decide +kernel
theorem dX7_furthest_77 : decode cX7_furthest 77 = .ok (.iload 5, 2) := by decide +kernel
theorem dX7_furthest_79 : decode cX7_furthest 79 = .ok (.if_icmp .le 11, 3) := by decide +kernel
theorem dX7_furthest_82 : decode cX7_furthest 82 = .ok (.iload 7, 2) := by decide +kernel
theorem dX7_furthest_84 : decode cX7_furthest 84 = .ok (.istore 5, 2) := by decide +kernel
theorem dX7_furthest_86 : decode cX7_furthest 86 = .ok (.iload 6, 2) := by decide +kernel
theorem dX7_furthest_88 : decode cX7_furthest 88 = .ok (.istore 4, 2) := by decide +kernel
theorem dX7_furthest_90 : decode cX7_furthest 90 = .ok (.iinc 6 1, 3) := by decide +kernel
theorem dX7_furthest_93 : decode cX7_furthest 93 = .ok (.goto (-48), 3) := by decide +kernel
theorem dX7_furthest_96 : decode cX7_furthest 96 = .ok (.iload_n 3, 1) := by decide +kernel
theorem dX7_furthest_97 : decode cX7_furthest 97 = .ok (.ifCond .ne 8, 3) := by decide +kernel
theorem dX7_furthest_100 : decode cX7_furthest 100 = .ok (.iload 4, 2) := by decide +kernel
theorem dX7_furthest_102 : decode cX7_furthest 102 = .ok (.goto 5, 3) := by decide +kernel
theorem dX7_furthest_105 : decode cX7_furthest 105 = .ok (.iload 5, 2) := by decide +kernel
theorem dX7_furthest_107 : decode cX7_furthest 107 = .ok (.ireturn, 1) := by decide +kernel
theorem dX7_rate_0 : decode cX7_rate 0 = .ok (.iload_n 1, 1) := by decide +kernel
theorem dX7_rate_1 : decode cX7_rate 1 = .ok (.invokestatic 239, 3) := by decide +kernel
theorem dX7_rate_4 : decode cX7_rate 4 = .ok (.ifCond .eq 15, 3) := by decide +kernel
theorem dX7_rate_7 : decode cX7_rate 7 = .ok (.iload_n 2, 1) := by decide +kernel
theorem dX7_rate_8 : decode cX7_rate 8 = .ok (.invokestatic 239, 3) := by decide +kernel
theorem dX7_rate_11 : decode cX7_rate 11 = .ok (.ifCond .eq 8, 3) := by decide +kernel
theorem dX7_rate_14 : decode cX7_rate 14 = .ok (.iload_n 1, 1) := by decide +kernel
theorem dX7_rate_15 : decode cX7_rate 15 = .ok (.iload_n 2, 1) := by decide +kernel
theorem dX7_rate_16 : decode cX7_rate 16 = .ok (.if_icmp .ne 6, 3) := by decide +kernel
theorem dX7_rate_19 : decode cX7_rate 19 = .ok (.bipush (-5), 2) := by decide +kernel
theorem dX7_rate_21 : decode cX7_rate 21 = .ok (.ireturn, 1) := by decide +kernel
theorem dX7_rate_22 : decode cX7_rate 22 = .ok (.iload_n 3, 1) := by decide +kernel
theorem dX7_rate_23 : decode cX7_rate 23 = .ok (.iconst 1, 1) := by decide +kernel
theorem dX7_rate_24 : decode cX7_rate 24 = .ok (.sipush 999, 3) := by decide +kernel
theorem dX7_rate_27 : decode cX7_rate 27 = .ok (.invokestatic 116, 3) := by decide +kernel
theorem dX7_rate_30 : decode cX7_rate 30 = .ok (.ifCond .ne 6, 3) := by decide +kernel
theorem dX7_rate_33 : decode cX7_rate 33 = .ok (.bipush (-7), 2) := by decide +kernel
theorem dX7_rate_35 : decode cX7_rate 35 = .ok (.ireturn, 1) := by decide +kernel
theorem dX7_rate_36 : decode cX7_rate 36 = .ok (.iload_n 1, 1) := by decide +kernel
theorem dX7_rate_37 : decode cX7_rate 37 = .ok (.iconst 4, 1) := by decide +kernel
theorem dX7_rate_38 : decode cX7_rate 38 = .ok (.imul, 1) := by decide +kernel
theorem dX7_rate_39 : decode cX7_rate 39 = .ok (.iload_n 2, 1) := by decide +kernel
theorem dX7_rate_40 : decode cX7_rate 40 = .ok (.iadd, 1) := by decide +kernel
theorem dX7_rate_41 : decode cX7_rate 41 = .ok (.istore 4, 2) := by decide +kernel
theorem dX7_rate_43 : decode cX7_rate 43 = .ok (.aload_n 0, 1) := by decide +kernel
theorem dX7_rate_44 : decode cX7_rate 44 = .ok (.getfield 28, 3) := by decide +kernel
theorem dX7_rate_47 : decode cX7_rate 47 = .ok (.getfield 242, 3) := by decide +kernel
theorem dX7_rate_50 : decode cX7_rate 50 = .ok (.iload 4, 2) := by decide +kernel
theorem dX7_rate_52 : decode cX7_rate 52 = .ok (.iaload, 1) := by decide +kernel
theorem dX7_rate_53 : decode cX7_rate 53 = .ok (.istore 5, 2) := by decide +kernel
theorem dX7_rate_55 : decode cX7_rate 55 = .ok (.aload_n 0, 1) := by decide +kernel
theorem dX7_rate_56 : decode cX7_rate 56 = .ok (.getfield 28, 3) := by decide +kernel
theorem dX7_rate_59 : decode cX7_rate 59 = .ok (.getfield 242, 3) := by decide +kernel
theorem dX7_rate_62 : decode cX7_rate 62 = .ok (.iload 4, 2) := by decide +kernel
theorem dX7_rate_64 : decode cX7_rate 64 = .ok (.iload_n 3, 1) := by decide +kernel
theorem dX7_rate_65 : decode cX7_rate 65 = .ok (.iastore, 1) := by decide +kernel
theorem dX7_rate_66 : decode cX7_rate 66 = .ok (.iload 5, 2) := by decide +kernel
theorem dX7_rate_68 : decode cX7_rate 68 = .ok (.ireturn, 1) := by decide +kernel
theorem dX7_change_0 : decode cX7_change 0 = .ok (.iload_n 1, 1) := by decide +kernel
theorem dX7_change_1 : decode cX7_change 1 = .ok (.invokestatic 239, 3) := by decide +kernel
theorem dX7_change_4 : decode cX7_change 4 = .ok (.ifCond .eq 21, 3) := by decide +kernel
theorem dX7_change_7 : decode cX7_change 7 = .ok (.iload_n 2, 1) := by decide +kernel
theorem dX7_change_8 : decode cX7_change 8 = .ok (.invokestatic 239, 3) := by decide +kernel
theorem dX7_change_11 : decode cX7_change 11 = .ok (.ifCond .eq 14, 3) := by decide +kernel
theorem dX7_change_14 : decode cX7_change 14 = .ok (.iload_n 3, 1) := by decide +kernel
theorem dX7_change_15 : decode cX7_change 15 = .ok (.iconst 0, 1) := by decide +kernel
theorem dX7_change_16 : decode cX7_change 16 = .ok (.sipush 9999, 3) := by decide +kernel
theorem dX7_change_19 : decode cX7_change 19 = .ok (.invokestatic 116, 3) := by decide +kernel
theorem dX7_change_22 : decode cX7_change 22 = .ok (.ifCond .ne 7, 3) := by decide +kernel
theorem dX7_change_25 : decode cX7_change 25 = .ok (.ldc2_w 245, 3) := by decide +kernel
theorem dX7_change_28 : decode cX7_change 28 = .ok (.lreturn, 1) := by decide +kernel
theorem dX7_change_29 : decode cX7_change 29 = .ok (.aload_n 0, 1) := by decide +kernel
theorem dX7_change_30 : decode cX7_change 30 = .ok (.getfield 28, 3) := by decide +kernel
theorem dX7_change_33 : decode cX7_change 33 = .ok (.iload_n 1, 1) := by decide +kernel
theorem dX7_change_34 : decode cX7_change 34 = .ok (.iload_n 2, 1) := by decide +kernel
theorem dX7_change_35 : decode cX7_change 35 = .ok (.iload_n 3, 1) := by decide +kernel
theorem dX7_change_36 : decode cX7_change 36 = .ok (.i2l, 1) := by decide +kernel
theorem dX7_change_37 : decode cX7_change 37 = .ok (.invokevirtual 247, 3) := by decide +kernel
theorem dX7_change_40 : decode cX7_change 40 = .ok (.lreturn, 1) := by decide +kernel
theorem dX7_gain_0 : decode cX7_gain 0 = .ok (.iload_n 1, 1) := by decide +kernel
theorem dX7_gain_1 : decode cX7_gain 1 = .ok (.invokestatic 239, 3) := by decide +kernel
theorem dX7_gain_4 : decode cX7_gain 4 = .ok (.ifCond .eq 23, 3) := by decide +kernel
theorem dX7_gain_7 : decode cX7_gain 7 = .ok (.iload_n 2, 1) := by decide +kernel
theorem dX7_gain_8 : decode cX7_gain 8 = .ok (.iconst 0, 1) := by decide +kernel
theorem dX7_gain_9 : decode cX7_gain 9 = .ok (.sipush 9999, 3) := by decide +kernel
theorem dX7_gain_12 : decode cX7_gain 12 = .ok (.invokestatic 116, 3) := by decide +kernel
theorem dX7_gain_15 : decode cX7_gain 15 = .ok (.ifCond .eq 12, 3) := by decide +kernel
theorem dX7_gain_18 : decode cX7_gain 18 = .ok (.iload_n 3, 1) := by decide +kernel
theorem dX7_gain_19 : decode cX7_gain 19 = .ok (.iconst 0, 1) := by decide +kernel
theorem dX7_gain_20 : decode cX7_gain 20 = .ok (.iconst 1, 1) := by decide +kernel
theorem dX7_gain_21 : decode cX7_gain 21 = .ok (.invokestatic 116, 3) := by decide +kernel
theorem dX7_gain_24 : decode cX7_gain 24 = .ok (.ifCond .ne 7, 3) := by decide +kernel
theorem dX7_gain_27 : decode cX7_gain 27 = .ok (.ldc2_w 245, 3) := by decide +kernel
theorem dX7_gain_30 : decode cX7_gain 30 = .ok (.lreturn, 1) := by decide +kernel
theorem dX7_gain_31 : decode cX7_gain 31 = .ok (.aload_n 0, 1) := by decide +kernel
theorem dX7_gain_32 : decode cX7_gain 32 = .ok (.getfield 54, 3) := by decide +kernel
theorem dX7_gain_35 : decode cX7_gain 35 = .ok (.iload_n 1, 1) := by decide +kernel
theorem dX7_gain_36 : decode cX7_gain 36 = .ok (.iload_n 2, 1) := by decide +kernel
theorem dX7_gain_37 : decode cX7_gain 37 = .ok (.i2l, 1) := by decide +kernel
theorem dX7_gain_38 : decode cX7_gain 38 = .ok (.invokevirtual 251, 3) := by decide +kernel
theorem dX7_gain_41 : decode cX7_gain 41 = .ok (.iload_n 3, 1) := by decide +kernel
theorem dX7_gain_42 : decode cX7_gain 42 = .ok (.ifCond .ne 14, 3) := by decide +kernel
theorem dX7_gain_45 : decode cX7_gain 45 = .ok (.aload_n 0, 1) := by decide +kernel
theorem dX7_gain_46 : decode cX7_gain 46 = .ok (.getfield 54, 3) := by decide +kernel
theorem dX7_gain_49 : decode cX7_gain 49 = .ok (.getfield 254, 3) := by decide +kernel
theorem dX7_gain_52 : decode cX7_gain 52 = .ok (.i2l, 1) := by decide +kernel
theorem dX7_gain_53 : decode cX7_gain 53 = .ok (.goto 10, 3) := by decide +kernel
theorem dX7_gain_56 : decode cX7_gain 56 = .ok (.aload_n 0, 1) := by decide +kernel
theorem dX7_gain_57 : decode cX7_gain 57 = .ok (.getfield 54, 3) := by decide +kernel
theorem dX7_gain_60 : decode cX7_gain 60 = .ok (.getfield 257, 3) := by decide +kernel
theorem dX7_gain_63 : decode cX7_gain 63 = .ok (.lreturn, 1) := by decide +kernel
theorem dX7_isTown_0 : decode cX7_isTown 0 = .ok (.iload_n 0, 1) := by decide +kernel
theorem dX7_isTown_1 : decode cX7_isTown 1 = .ok (.iconst 0, 1) := by decide +kernel
theorem dX7_isTown_2 : decode cX7_isTown 2 = .ok (.iconst 3, 1) := by decide +kernel
theorem dX7_isTown_3 : decode cX7_isTown 3 = .ok (.invokestatic 116, 3) := by decide +kernel
theorem dX7_isTown_6 : decode cX7_isTown 6 = .ok (.ireturn, 1) := by decide +kernel
theorem dX7_judge_0 : decode cX7_judge 0 = .ok (.aload_n 0, 1) := by decide +kernel
theorem dX7_judge_1 : decode cX7_judge 1 = .ok (.iload_n 1, 1) := by decide +kernel
theorem dX7_judge_2 : decode cX7_judge 2 = .ok (.iload_n 2, 1) := by decide +kernel
theorem dX7_judge_3 : decode cX7_judge 3 = .ok (.invokevirtual 260, 3) := by decide +kernel
theorem dX7_judge_6 : decode cX7_judge 6 = .ok (.istore_n 3, 1) := by decide +kernel
theorem dX7_judge_7 : decode cX7_judge 7 = .ok (.iload_n 3, 1) := by decide +kernel
theorem dX7_judge_8 : decode cX7_judge 8 = .ok (.ifCond .eq 7, 3) := by decide +kernel
theorem dX7_judge_11 : decode cX7_judge 11 = .ok (.iload_n 3, 1) := by decide +kernel
theorem dX7_judge_12 : decode cX7_judge 12 = .ok (.goto 13, 3) := by decide +kernel
theorem dX7_judge_15 : decode cX7_judge 15 = .ok (.aload_n 0, 1) := by decide +kernel
theorem dX7_judge_16 : decode cX7_judge 16 = .ok (.aload_n 0, 1) := by decide +kernel
theorem dX7_judge_17 : decode cX7_judge 17 = .ok (.getfield 28, 3) := by decide +kernel
theorem dX7_judge_20 : decode cX7_judge 20 = .ok (.iload_n 1, 1) := by decide +kernel
theorem dX7_judge_21 : decode cX7_judge 21 = .ok (.iload_n 2, 1) := by decide +kernel
theorem dX7_judge_22 : decode cX7_judge 22 = .ok (.invokevirtual 263, 3) := by decide +kernel
theorem dX7_judge_25 : decode cX7_judge 25 = .ok (.ireturn, 1) := by decide +kernel
theorem dX7_humours_0 : decode cX7_humours 0 = .ok (.aload_n 0, 1) := by decide +kernel
theorem dX7_humours_1 : decode cX7_humours 1 = .ok (.iload_n 1, 1) := by decide +kernel
theorem dX7_humours_2 : decode cX7_humours 2 = .ok (.iload_n 2, 1) := by decide +kernel
theorem dX7_humours_3 : decode cX7_humours 3 = .ok (.invokevirtual 260, 3) := by decide +kernel
theorem dX7_humours_6 : decode cX7_humours 6 = .ok (.istore_n 3, 1) := by decide +kernel
theorem dX7_humours_7 : decode cX7_humours 7 = .ok (.iload_n 3, 1) := by decide +kernel
theorem dX7_humours_8 : decode cX7_humours 8 = .ok (.ifCond .eq 5, 3) := by decide +kernel
theorem dX7_humours_11 : decode cX7_humours 11 = .ok (.iload_n 3, 1) := by decide +kernel
theorem dX7_humours_12 : decode cX7_humours 12 = .ok (.ireturn, 1) := by decide +kernel
theorem dX7_humours_13 : decode cX7_humours 13 = .ok (.aload_n 0, 1) := by decide +kernel
theorem dX7_humours_14 : decode cX7_humours 14 = .ok (.getfield 32, 3) := by decide +kernel
theorem dX7_humours_17 : decode cX7_humours 17 = .ok (.aload_n 0, 1) := by decide +kernel
theorem dX7_humours_18 : decode cX7_humours 18 = .ok (.getfield 28, 3) := by decide +kernel
theorem dX7_humours_21 : decode cX7_humours 21 = .ok (.invokevirtual 197, 3) := by decide +kernel
theorem dX7_humours_24 : decode cX7_humours 24 = .ok (.iconst 0, 1) := by decide +kernel
theorem dX7_humours_25 : decode cX7_humours 25 = .ok (.istore 4, 2) := by decide +kernel
theorem dX7_humours_27 : decode cX7_humours 27 = .ok (.iconst 0, 1) := by decide +kernel
theorem dX7_humours_28 : decode cX7_humours 28 = .ok (.istore 5, 2) := by decide +kernel
theorem dX7_humours_30 : decode cX7_humours 30 = .ok (.iload 5, 2) := by decide +kernel
theorem dX7_humours_32 : decode cX7_humours 32 = .ok (.bipush 9, 2) := by decide +kernel
theorem dX7_humours_34 : decode cX7_humours 34 = .ok (.if_icmp .gt 34, 3) := by decide +kernel
theorem dX7_humours_37 : decode cX7_humours 37 = .ok (.aload_n 0, 1) := by decide +kernel
theorem dX7_humours_38 : decode cX7_humours 38 = .ok (.getfield 32, 3) := by decide +kernel
theorem dX7_humours_41 : decode cX7_humours 41 = .ok (.getfield 267, 3) := by decide +kernel
theorem dX7_humours_44 : decode cX7_humours 44 = .ok (.iload_n 2, 1) := by decide +kernel
theorem dX7_humours_45 : decode cX7_humours 45 = .ok (.iload 5, 2) := by decide +kernel
theorem dX7_humours_47 : decode cX7_humours 47 = .ok (.iastore, 1) := by decide +kernel
theorem dX7_humours_48 : decode cX7_humours 48 = .ok (.iload 4, 2) := by decide +kernel
theorem dX7_humours_50 : decode cX7_humours 50 = .ok (.aload_n 0, 1) := by decide +kernel
theorem dX7_humours_51 : decode cX7_humours 51 = .ok (.iload_n 1, 1) := by decide +kernel
theorem dX7_humours_52 : decode cX7_humours 52 = .ok (.iload_n 2, 1) := by decide +kernel
theorem dX7_humours_53 : decode cX7_humours 53 = .ok (.invokevirtual 270, 3) := by decide +kernel
theorem dX7_humours_56 : decode cX7_humours 56 = .ok (.iload 5, 2) := by decide +kernel
theorem dX7_humours_58 : decode cX7_humours 58 = .ok (.ishl, 1) := by decide +kernel
theorem dX7_humours_59 : decode cX7_humours 59 = .ok (.ior, 1) := by decide +kernel
theorem dX7_humours_60 : decode cX7_humours 60 = .ok (.istore 4, 2) := by decide +kernel
theorem dX7_humours_62 : decode cX7_humours 62 = .ok (.iinc 5 1, 3) := by decide +kernel
theorem dX7_humours_65 : decode cX7_humours 65 = .ok (.goto (-35), 3) := by decide +kernel
theorem dX7_humours_68 : decode cX7_humours 68 = .ok (.iload 4, 2) := by decide +kernel
theorem dX7_humours_70 : decode cX7_humours 70 = .ok (.ireturn, 1) := by decide +kernel
theorem dX7_heards_0 : decode cX7_heards 0 = .ok (.aload_n 0, 1) := by decide +kernel
theorem dX7_heards_1 : decode cX7_heards 1 = .ok (.iload_n 1, 1) := by decide +kernel
theorem dX7_heards_2 : decode cX7_heards 2 = .ok (.iload_n 2, 1) := by decide +kernel
theorem dX7_heards_3 : decode cX7_heards 3 = .ok (.invokevirtual 260, 3) := by decide +kernel
theorem dX7_heards_6 : decode cX7_heards 6 = .ok (.istore 4, 2) := by decide +kernel
theorem dX7_heards_8 : decode cX7_heards 8 = .ok (.iload 4, 2) := by decide +kernel
theorem dX7_heards_10 : decode cX7_heards 10 = .ok (.ifCond .eq 6, 3) := by decide +kernel
theorem dX7_heards_13 : decode cX7_heards 13 = .ok (.iload 4, 2) := by decide +kernel
theorem dX7_heards_15 : decode cX7_heards 15 = .ok (.ireturn, 1) := by decide +kernel
theorem dX7_heards_16 : decode cX7_heards 16 = .ok (.iload_n 3, 1) := by decide +kernel
theorem dX7_heards_17 : decode cX7_heards 17 = .ok (.iconst 0, 1) := by decide +kernel
theorem dX7_heards_18 : decode cX7_heards 18 = .ok (.iconst 2, 1) := by decide +kernel
theorem dX7_heards_19 : decode cX7_heards 19 = .ok (.invokestatic 116, 3) := by decide +kernel
theorem dX7_heards_22 : decode cX7_heards 22 = .ok (.ifCond .ne 6, 3) := by decide +kernel
theorem dX7_heards_25 : decode cX7_heards 25 = .ok (.bipush (-7), 2) := by decide +kernel
theorem dX7_heards_27 : decode cX7_heards 27 = .ok (.ireturn, 1) := by decide +kernel
theorem dX7_heards_28 : decode cX7_heards 28 = .ok (.aload_n 0, 1) := by decide +kernel
theorem dX7_heards_29 : decode cX7_heards 29 = .ok (.getfield 32, 3) := by decide +kernel
theorem dX7_heards_32 : decode cX7_heards 32 = .ok (.aload_n 0, 1) := by decide +kernel
theorem dX7_heards_33 : decode cX7_heards 33 = .ok (.getfield 28, 3) := by decide +kernel
theorem dX7_heards_36 : decode cX7_heards 36 = .ok (.invokevirtual 197, 3) := by decide +kernel
theorem dX7_heards_39 : decode cX7_heards 39 = .ok (.iconst 0, 1) := by decide +kernel
theorem dX7_heards_40 : decode cX7_heards 40 = .ok (.istore 5, 2) := by decide +kernel
theorem dX7_heards_42 : decode cX7_heards 42 = .ok (.aload_n 0, 1) := by decide +kernel
theorem dX7_heards_43 : decode cX7_heards 43 = .ok (.getfield 28, 3) := by decide +kernel
theorem dX7_heards_46 : decode cX7_heards 46 = .ok (.invokevirtual 175, 3) := by decide +kernel
theorem dX7_heards_49 : decode cX7_heards 49 = .ok (.istore 6, 2) := by decide +kernel
theorem dX7_heards_51 : decode cX7_heards 51 = .ok (.aload_n 0, 1) := by decide +kernel
theorem dX7_heards_52 : decode cX7_heards 52 = .ok (.getfield 28, 3) := by decide +kernel
theorem dX7_heards_55 : decode cX7_heards 55 = .ok (.invokevirtual 175, 3) := by decide +kernel
theorem dX7_heards_58 : decode cX7_heards 58 = .ok (.istore 7, 2) := by decide +kernel
theorem dX7_heards_60 : decode cX7_heards 60 = .ok (.iconst 0, 1) := by decide +kernel
theorem dX7_heards_61 : decode cX7_heards 61 = .ok (.istore 8, 2) := by decide +kernel
theorem dX7_heards_63 : decode cX7_heards 63 = .ok (.iload 8, 2) := by decide +kernel
theorem dX7_heards_65 : decode cX7_heards 65 = .ok (.aload_n 0, 1) := by decide +kernel
theorem dX7_heards_66 : decode cX7_heards 66 = .ok (.getfield 28, 3) := by decide +kernel
theorem dX7_heards_69 : decode cX7_heards 69 = .ok (.invokevirtual 175, 3) := by decide +kernel
theorem dX7_heards_72 : decode cX7_heards 72 = .ok (.if_icmp .gt 49, 3) := by decide +kernel
theorem dX7_heards_75 : decode cX7_heards 75 = .ok (.aload_n 0, 1) := by decide +kernel
theorem dX7_heards_76 : decode cX7_heards 76 = .ok (.getfield 32, 3) := by decide +kernel
theorem dX7_heards_79 : decode cX7_heards 79 = .ok (.getfield 273, 3) := by decide +kernel
theorem dX7_heards_82 : decode cX7_heards 82 = .ok (.iload_n 2, 1) := by decide +kernel
theorem dX7_heards_83 : decode cX7_heards 83 = .ok (.iload 8, 2) := by decide +kernel
theorem dX7_heards_85 : decode cX7_heards 85 = .ok (.iastore, 1) := by decide +kernel
theorem dX7_heards_86 : decode cX7_heards 86 = .ok (.aload_n 0, 1) := by decide +kernel
theorem dX7_heards_87 : decode cX7_heards 87 = .ok (.iload_n 1, 1) := by decide +kernel
theorem dX7_heards_88 : decode cX7_heards 88 = .ok (.iload_n 2, 1) := by decide +kernel
theorem dX7_heards_89 : decode cX7_heards 89 = .ok (.invokevirtual 270, 3) := by decide +kernel
theorem dX7_heards_92 : decode cX7_heards 92 = .ok (.iconst 1, 1) := by decide +kernel
theorem dX7_heards_93 : decode cX7_heards 93 = .ok (.if_icmp .ne 22, 3) := by decide +kernel
theorem dX7_heards_96 : decode cX7_heards 96 = .ok (.iinc 5 1, 3) := by decide +kernel
theorem dX7_heards_99 : decode cX7_heards 99 = .ok (.iload 6, 2) := by decide +kernel
theorem dX7_heards_101 : decode cX7_heards 101 = .ok (.iload 8, 2) := by decide +kernel
theorem dX7_heards_103 : decode cX7_heards 103 = .ok (.iand, 1) := by decide +kernel
theorem dX7_heards_104 : decode cX7_heards 104 = .ok (.istore 6, 2) := by decide +kernel
theorem dX7_heards_106 : decode cX7_heards 106 = .ok (.iload 7, 2) := by decide +kernel
theorem dX7_heards_108 : decode cX7_heards 108 = .ok (.iload 8, 2) := by decide +kernel
theorem dX7_heards_110 : decode cX7_heards 110 = .ok (.iconst (-1), 1) := by decide +kernel
theorem dX7_heards_111 : decode cX7_heards 111 = .ok (.ixor, 1) := by decide +kernel
theorem dX7_heards_112 : decode cX7_heards 112 = .ok (.iand, 1) := by decide +kernel
theorem dX7_heards_113 : decode cX7_heards 113 = .ok (.istore 7, 2) := by decide +kernel
theorem dX7_heards_115 : decode cX7_heards 115 = .ok (.iinc 8 1, 3) := by decide +kernel
theorem dX7_heards_118 : decode cX7_heards 118 = .ok (.goto (-55), 3) := by decide +kernel
theorem dX7_heards_121 : decode cX7_heards 121 = .ok (.iload_n 3, 1) := by decide +kernel
theorem dX7_heards_122 : decode cX7_heards 122 = .ok (.ifCond .ne 6, 3) := by decide +kernel
theorem dX7_heards_125 : decode cX7_heards 125 = .ok (.iload 5, 2) := by decide +kernel
theorem dX7_heards_127 : decode cX7_heards 127 = .ok (.ireturn, 1) := by decide +kernel
theorem dX7_heards_128 : decode cX7_heards 128 = .ok (.iload 5, 2) := by decide +kernel
theorem dX7_heards_130 : decode cX7_heards 130 = .ok (.ifCond .ne 5, 3) := by decide +kernel
theorem dX7_heards_133 : decode cX7_heards 133 = .ok (.iconst (-1), 1) := by decide +kernel
theorem dX7_heards_134 : decode cX7_heards 134 = .ok (.ireturn, 1) := by decide +kernel
theorem dX7_heards_135 : decode cX7_heards 135 = .ok (.iload_n 3, 1) := by decide +kernel
theorem dX7_heards_136 : decode cX7_heards 136 = .ok (.iconst 1, 1) := by decide +kernel
theorem dX7_heards_137 : decode cX7_heards 137 = .ok (.if_icmp .ne 8, 3) := by decide +kernel
theorem dX7_heards_140 : decode cX7_heards 140 = .ok (.iload 6, 2) := by decide +kernel
theorem dX7_heards_142 : decode cX7_heards 142 = .ok (.goto 5, 3) := by decide +kernel
theorem dX7_heards_145 : decode cX7_heards 145 = .ok (.iload 7, 2) := by decide +kernel
theorem dX7_heards_147 : decode cX7_heards 147 = .ok (.ireturn, 1) := by decide +kernel
theorem dX7_kinds_0 : decode cX7_kinds 0 = .ok (.aload_n 0, 1) := by decide +kernel
theorem dX7_kinds_1 : decode cX7_kinds 1 = .ok (.iload_n 1, 1) := by decide +kernel
theorem dX7_kinds_2 : decode cX7_kinds 2 = .ok (.iload_n 2, 1) := by decide +kernel
theorem dX7_kinds_3 : decode cX7_kinds 3 = .ok (.iload_n 3, 1) := by decide +kernel
theorem dX7_kinds_4 : decode cX7_kinds 4 = .ok (.invokevirtual 276, 3) := by decide +kernel
theorem dX7_kinds_7 : decode cX7_kinds 7 = .ok (.istore 4, 2) := by decide +kernel
theorem dX7_kinds_9 : decode cX7_kinds 9 = .ok (.iload 4, 2) := by decide +kernel
theorem dX7_kinds_11 : decode cX7_kinds 11 = .ok (.ifCond .eq 6, 3) := by decide +kernel
theorem dX7_kinds_14 : decode cX7_kinds 14 = .ok (.iload 4, 2) := by decide +kernel
theorem dX7_kinds_16 : decode cX7_kinds 16 = .ok (.ireturn, 1) := by decide +kernel
theorem dX7_kinds_17 : decode cX7_kinds 17 = .ok (.iload_n 3, 1) := by decide +kernel
theorem dX7_kinds_18 : decode cX7_kinds 18 = .ok (.bipush 10, 2) := by decide +kernel
theorem dX7_kinds_20 : decode cX7_kinds 20 = .ok (.idiv, 1) := by decide +kernel
theorem dX7_kinds_21 : decode cX7_kinds 21 = .ok (.istore 5, 2) := by decide +kernel
theorem dX7_kinds_23 : decode cX7_kinds 23 = .ok (.aload_n 0, 1) := by decide +kernel
theorem dX7_kinds_24 : decode cX7_kinds 24 = .ok (.getfield 32, 3) := by decide +kernel
theorem dX7_kinds_27 : decode cX7_kinds 27 = .ok (.aload_n 0, 1) := by decide +kernel
theorem dX7_kinds_28 : decode cX7_kinds 28 = .ok (.getfield 28, 3) := by decide +kernel
theorem dX7_kinds_31 : decode cX7_kinds 31 = .ok (.invokevirtual 197, 3) := by decide +kernel
theorem dX7_kinds_34 : decode cX7_kinds 34 = .ok (.iconst 0, 1) := by decide +kernel
theorem dX7_kinds_35 : decode cX7_kinds 35 = .ok (.istore 6, 2) := by decide +kernel
theorem dX7_kinds_37 : decode cX7_kinds 37 = .ok (.iload_n 3, 1) := by decide +kernel
theorem dX7_kinds_38 : decode cX7_kinds 38 = .ok (.bipush 10, 2) := by decide +kernel
theorem dX7_kinds_40 : decode cX7_kinds 40 = .ok (.irem, 1) := by decide +kernel
theorem dX7_kinds_41 : decode cX7_kinds 41 = .ok (.ifCond .ne 48, 3) := by decide +kernel
theorem dX7_kinds_44 : decode cX7_kinds 44 = .ok (.iconst 0, 1) := by decide +kernel
theorem dX7_kinds_45 : decode cX7_kinds 45 = .ok (.istore 7, 2) := by decide +kernel
theorem dX7_kinds_47 : decode cX7_kinds 47 = .ok (.iload 7, 2) := by decide +kernel
theorem dX7_kinds_49 : decode cX7_kinds 49 = .ok (.bipush 6, 2) := by decide +kernel
theorem dX7_kinds_51 : decode cX7_kinds 51 = .ok (.if_icmp .ge 35, 3) := by decide +kernel
theorem dX7_kinds_54 : decode cX7_kinds 54 = .ok (.aload_n 0, 1) := by decide +kernel
theorem dX7_kinds_55 : decode cX7_kinds 55 = .ok (.getfield 32, 3) := by decide +kernel
theorem dX7_kinds_58 : decode cX7_kinds 58 = .ok (.getfield 141, 3) := by decide +kernel
theorem dX7_kinds_61 : decode cX7_kinds 61 = .ok (.iload 5, 2) := by decide +kernel
theorem dX7_kinds_63 : decode cX7_kinds 63 = .ok (.iload 7, 2) := by decide +kernel
theorem dX7_kinds_65 : decode cX7_kinds 65 = .ok (.iastore, 1) := by decide +kernel
theorem dX7_kinds_66 : decode cX7_kinds 66 = .ok (.iload 6, 2) := by decide +kernel
theorem dX7_kinds_68 : decode cX7_kinds 68 = .ok (.aload_n 0, 1) := by decide +kernel
theorem dX7_kinds_69 : decode cX7_kinds 69 = .ok (.iload_n 1, 1) := by decide +kernel
theorem dX7_kinds_70 : decode cX7_kinds 70 = .ok (.iload_n 2, 1) := by decide +kernel
theorem dX7_kinds_71 : decode cX7_kinds 71 = .ok (.invokevirtual 270, 3) := by decide +kernel
theorem dX7_kinds_74 : decode cX7_kinds 74 = .ok (.iload 7, 2) := by decide +kernel
theorem dX7_kinds_76 : decode cX7_kinds 76 = .ok (.ishl, 1) := by decide +kernel
theorem dX7_kinds_77 : decode cX7_kinds 77 = .ok (.ior, 1) := by decide +kernel
theorem dX7_kinds_78 : decode cX7_kinds 78 = .ok (.istore 6, 2) := by decide +kernel
theorem dX7_kinds_80 : decode cX7_kinds 80 = .ok (.iinc 7 1, 3) := by decide +kernel
theorem dX7_kinds_83 : decode cX7_kinds 83 = .ok (.goto (-36), 3) := by decide +kernel
theorem dX7_kinds_86 : decode cX7_kinds 86 = .ok (.goto 45, 3) := by decide +kernel
theorem dX7_kinds_89 : decode cX7_kinds 89 = .ok (.iconst 0, 1) := by decide +kernel
theorem dX7_kinds_90 : decode cX7_kinds 90 = .ok (.istore 7, 2) := by decide +kernel
theorem dX7_kinds_92 : decode cX7_kinds 92 = .ok (.iload 7, 2) := by decide +kernel
theorem dX7_kinds_94 : decode cX7_kinds 94 = .ok (.bipush 9, 2) := by decide +kernel
theorem dX7_kinds_96 : decode cX7_kinds 96 = .ok (.if_icmp .gt 35, 3) := by decide +kernel
theorem dX7_kinds_99 : decode cX7_kinds 99 = .ok (.aload_n 0, 1) := by decide +kernel
theorem dX7_kinds_100 : decode cX7_kinds 100 = .ok (.getfield 32, 3) := by decide +kernel
theorem dX7_kinds_103 : decode cX7_kinds 103 = .ok (.getfield 144, 3) := by decide +kernel
theorem dX7_kinds_106 : decode cX7_kinds 106 = .ok (.iload 5, 2) := by decide +kernel
theorem dX7_kinds_108 : decode cX7_kinds 108 = .ok (.iload 7, 2) := by decide +kernel
theorem dX7_kinds_110 : decode cX7_kinds 110 = .ok (.iastore, 1) := by decide +kernel
theorem dX7_kinds_111 : decode cX7_kinds 111 = .ok (.iload 6, 2) := by decide +kernel
theorem dX7_kinds_113 : decode cX7_kinds 113 = .ok (.aload_n 0, 1) := by decide +kernel
theorem dX7_kinds_114 : decode cX7_kinds 114 = .ok (.iload_n 1, 1) := by decide +kernel
theorem dX7_kinds_115 : decode cX7_kinds 115 = .ok (.iload_n 2, 1) := by decide +kernel
theorem dX7_kinds_116 : decode cX7_kinds 116 = .ok (.invokevirtual 270, 3) := by decide +kernel
theorem dX7_kinds_119 : decode cX7_kinds 119 = .ok (.iload 7, 2) := by decide +kernel
theorem dX7_kinds_121 : decode cX7_kinds 121 = .ok (.ishl, 1) := by decide +kernel
theorem dX7_kinds_122 : decode cX7_kinds 122 = .ok (.ior, 1) := by decide +kernel
theorem dX7_kinds_123 : decode cX7_kinds 123 = .ok (.istore 6, 2) := by decide +kernel
theorem dX7_kinds_125 : decode cX7_kinds 125 = .ok (.iinc 7 1, 3) := by decide +kernel
theorem dX7_kinds_128 : decode cX7_kinds 128 = .ok (.goto (-36), 3) := by decide +kernel
theorem dX7_kinds_131 : decode cX7_kinds 131 = .ok (.iload 6, 2) := by decide +kernel
theorem dX7_kinds_133 : decode cX7_kinds 133 = .ok (.ireturn, 1) := by decide +kernel
theorem dX7_wear_0 : decode cX7_wear 0 = .ok (.aload_n 0, 1) := by decide +kernel
theorem dX7_wear_1 : decode cX7_wear 1 = .ok (.iload_n 1, 1) := by decide +kernel
theorem dX7_wear_2 : decode cX7_wear 2 = .ok (.iload_n 2, 1) := by decide +kernel
theorem dX7_wear_3 : decode cX7_wear 3 = .ok (.iload_n 3, 1) := by decide +kernel
theorem dX7_wear_4 : decode cX7_wear 4 = .ok (.invokevirtual 276, 3) := by decide +kernel
theorem dX7_wear_7 : decode cX7_wear 7 = .ok (.istore 4, 2) := by decide +kernel
theorem dX7_wear_9 : decode cX7_wear 9 = .ok (.iload 4, 2) := by decide +kernel
theorem dX7_wear_11 : decode cX7_wear 11 = .ok (.ifCond .eq 6, 3) := by decide +kernel
theorem dX7_wear_14 : decode cX7_wear 14 = .ok (.iload 4, 2) := by decide +kernel
theorem dX7_wear_16 : decode cX7_wear 16 = .ok (.ireturn, 1) := by decide +kernel
theorem dX7_wear_17 : decode cX7_wear 17 = .ok (.iload_n 3, 1) := by decide +kernel
theorem dX7_wear_18 : decode cX7_wear 18 = .ok (.bipush 10, 2) := by decide +kernel
theorem dX7_wear_20 : decode cX7_wear 20 = .ok (.idiv, 1) := by decide +kernel
theorem dX7_wear_21 : decode cX7_wear 21 = .ok (.istore 5, 2) := by decide +kernel
theorem dX7_wear_23 : decode cX7_wear 23 = .ok (.aload_n 0, 1) := by decide +kernel
theorem dX7_wear_24 : decode cX7_wear 24 = .ok (.getfield 32, 3) := by decide +kernel
theorem dX7_wear_27 : decode cX7_wear 27 = .ok (.aload_n 0, 1) := by decide +kernel
theorem dX7_wear_28 : decode cX7_wear 28 = .ok (.getfield 28, 3) := by decide +kernel
theorem dX7_wear_31 : decode cX7_wear 31 = .ok (.invokevirtual 197, 3) := by decide +kernel
theorem dX7_wear_34 : decode cX7_wear 34 = .ok (.iconst 0, 1) := by decide +kernel
theorem dX7_wear_35 : decode cX7_wear 35 = .ok (.istore 6, 2) := by decide +kernel
theorem dX7_wear_37 : decode cX7_wear 37 = .ok (.iconst (-1), 1) := by decide +kernel
theorem dX7_wear_38 : decode cX7_wear 38 = .ok (.istore 7, 2) := by decide +kernel
theorem dX7_wear_40 : decode cX7_wear 40 = .ok (.iconst 0, 1) := by decide +kernel
theorem dX7_wear_41 : decode cX7_wear 41 = .ok (.istore 8, 2) := by decide +kernel
theorem dX7_wear_43 : decode cX7_wear 43 = .ok (.iload 8, 2) := by decide +kernel
theorem dX7_wear_45 : decode cX7_wear 45 = .ok (.bipush 99, 2) := by decide +kernel
theorem dX7_wear_47 : decode cX7_wear 47 = .ok (.if_icmp .gt 49, 3) := by decide +kernel
theorem dX7_wear_50 : decode cX7_wear 50 = .ok (.aload_n 0, 1) := by decide +kernel
theorem dX7_wear_51 : decode cX7_wear 51 = .ok (.getfield 32, 3) := by decide +kernel
theorem dX7_wear_54 : decode cX7_wear 54 = .ok (.getfield 147, 3) := by decide +kernel
theorem dX7_wear_57 : decode cX7_wear 57 = .ok (.iload 5, 2) := by decide +kernel
theorem dX7_wear_59 : decode cX7_wear 59 = .ok (.iload 8, 2) := by decide +kernel
theorem dX7_wear_61 : decode cX7_wear 61 = .ok (.iastore, 1) := by decide +kernel
theorem dX7_wear_62 : decode cX7_wear 62 = .ok (.aload_n 0, 1) := by decide +kernel
theorem dX7_wear_63 : decode cX7_wear 63 = .ok (.iload_n 1, 1) := by decide +kernel
theorem dX7_wear_64 : decode cX7_wear 64 = .ok (.iload_n 2, 1) := by decide +kernel
theorem dX7_wear_65 : decode cX7_wear 65 = .ok (.invokevirtual 270, 3) := by decide +kernel
theorem dX7_wear_68 : decode cX7_wear 68 = .ok (.iconst 1, 1) := by decide +kernel
theorem dX7_wear_69 : decode cX7_wear 69 = .ok (.if_icmp .ne 21, 3) := by decide +kernel
theorem dX7_wear_72 : decode cX7_wear 72 = .ok (.iinc 6 1, 3) := by decide +kernel
theorem dX7_wear_75 : decode cX7_wear 75 = .ok (.iload 7, 2) := by decide +kernel
theorem dX7_wear_77 : decode cX7_wear 77 = .ok (.iconst (-1), 1) := by decide +kernel
theorem dX7_wear_78 : decode cX7_wear 78 = .ok (.if_icmp .ne 8, 3) := by decide +kernel
theorem dX7_wear_81 : decode cX7_wear 81 = .ok (.iload 8, 2) := by decide +kernel
theorem dX7_wear_83 : decode cX7_wear 83 = .ok (.goto 5, 3) := by decide +kernel
theorem dX7_wear_86 : decode cX7_wear 86 = .ok (.iload 7, 2) := by decide +kernel
theorem dX7_wear_88 : decode cX7_wear 88 = .ok (.istore 7, 2) := by decide +kernel
theorem dX7_wear_90 : decode cX7_wear 90 = .ok (.iinc 8 1, 3) := by decide +kernel
theorem dX7_wear_93 : decode cX7_wear 93 = .ok (.goto (-50), 3) := by decide +kernel
theorem dX7_wear_96 : decode cX7_wear 96 = .ok (.iload_n 3, 1) := by decide +kernel
theorem dX7_wear_97 : decode cX7_wear 97 = .ok (.bipush 10, 2) := by decide +kernel
theorem dX7_wear_99 : decode cX7_wear 99 = .ok (.irem, 1) := by decide +kernel
theorem dX7_wear_100 : decode cX7_wear 100 = .ok (.ifCond .ne 8, 3) := by decide +kernel
theorem dX7_wear_103 : decode cX7_wear 103 = .ok (.iload 6, 2) := by decide +kernel
theorem dX7_wear_105 : decode cX7_wear 105 = .ok (.goto 5, 3) := by decide +kernel
theorem dX7_wear_108 : decode cX7_wear 108 = .ok (.iload 7, 2) := by decide +kernel
theorem dX7_wear_110 : decode cX7_wear 110 = .ok (.ireturn, 1) := by decide +kernel
theorem dX7_whose_0 : decode cX7_whose 0 = .ok (.aload_n 0, 1) := by decide +kernel
theorem dX7_whose_1 : decode cX7_whose 1 = .ok (.iload_n 1, 1) := by decide +kernel
theorem dX7_whose_2 : decode cX7_whose 2 = .ok (.invokevirtual 279, 3) := by decide +kernel
theorem dX7_whose_5 : decode cX7_whose 5 = .ok (.istore_n 2, 1) := by decide +kernel
theorem dX7_whose_6 : decode cX7_whose 6 = .ok (.iload_n 2, 1) := by decide +kernel
theorem dX7_whose_7 : decode cX7_whose 7 = .ok (.ifCond .eq 5, 3) := by decide +kernel
theorem dX7_whose_10 : decode cX7_whose 10 = .ok (.iload_n 2, 1) := by decide +kernel
theorem dX7_whose_11 : decode cX7_whose 11 = .ok (.ireturn, 1) := by decide +kernel
theorem dX7_whose_12 : decode cX7_whose 12 = .ok (.iconst 0, 1) := by decide +kernel
theorem dX7_whose_13 : decode cX7_whose 13 = .ok (.istore_n 3, 1) := by decide +kernel
theorem dX7_whose_14 : decode cX7_whose 14 = .ok (.iconst 0, 1) := by decide +kernel
theorem dX7_whose_15 : decode cX7_whose 15 = .ok (.istore 4, 2) := by decide +kernel
theorem dX7_whose_17 : decode cX7_whose 17 = .ok (.iload 4, 2) := by decide +kernel
theorem dX7_whose_19 : decode cX7_whose 19 = .ok (.aload_n 0, 1) := by decide +kernel
theorem dX7_whose_20 : decode cX7_whose 20 = .ok (.getfield 28, 3) := by decide +kernel
theorem dX7_whose_23 : decode cX7_whose 23 = .ok (.getfield 103, 3) := by decide +kernel
theorem dX7_whose_26 : decode cX7_whose 26 = .ok (.if_icmp .ge 31, 3) := by decide +kernel
theorem dX7_whose_29 : decode cX7_whose 29 = .ok (.aload_n 0, 1) := by decide +kernel
theorem dX7_whose_30 : decode cX7_whose 30 = .ok (.aload_n 0, 1) := by decide +kernel
theorem dX7_whose_31 : decode cX7_whose 31 = .ok (.getfield 28, 3) := by decide +kernel
theorem dX7_whose_34 : decode cX7_whose 34 = .ok (.iload_n 1, 1) := by decide +kernel
theorem dX7_whose_35 : decode cX7_whose 35 = .ok (.iload 4, 2) := by decide +kernel
theorem dX7_whose_37 : decode cX7_whose 37 = .ok (.invokevirtual 263, 3) := by decide +kernel
theorem dX7_whose_40 : decode cX7_whose 40 = .ok (.iconst (-1), 1) := by decide +kernel
theorem dX7_whose_41 : decode cX7_whose 41 = .ok (.if_icmp .ne 10, 3) := by decide +kernel
theorem dX7_whose_44 : decode cX7_whose 44 = .ok (.iload_n 3, 1) := by decide +kernel
theorem dX7_whose_45 : decode cX7_whose 45 = .ok (.iconst 1, 1) := by decide +kernel
theorem dX7_whose_46 : decode cX7_whose 46 = .ok (.iload 4, 2) := by decide +kernel
theorem dX7_whose_48 : decode cX7_whose 48 = .ok (.ishl, 1) := by decide +kernel
theorem dX7_whose_49 : decode cX7_whose 49 = .ok (.ior, 1) := by decide +kernel
theorem dX7_whose_50 : decode cX7_whose 50 = .ok (.istore_n 3, 1) := by decide +kernel
theorem dX7_whose_51 : decode cX7_whose 51 = .ok (.iinc 4 1, 3) := by decide +kernel
theorem dX7_whose_54 : decode cX7_whose 54 = .ok (.goto (-37), 3) := by decide +kernel
theorem dX7_whose_57 : decode cX7_whose 57 = .ok (.iload_n 3, 1) := by decide +kernel
theorem dX7_whose_58 : decode cX7_whose 58 = .ok (.ireturn, 1) := by decide +kernel
theorem dX7_laws_0 : decode cX7_laws 0 = .ok (.aload_n 0, 1) := by decide +kernel
theorem dX7_laws_1 : decode cX7_laws 1 = .ok (.iload_n 1, 1) := by decide +kernel
theorem dX7_laws_2 : decode cX7_laws 2 = .ok (.iload_n 2, 1) := by decide +kernel
theorem dX7_laws_3 : decode cX7_laws 3 = .ok (.invokevirtual 260, 3) := by decide +kernel
theorem dX7_laws_6 : decode cX7_laws 6 = .ok (.istore_n 3, 1) := by decide +kernel
theorem dX7_laws_7 : decode cX7_laws 7 = .ok (.iload_n 3, 1) := by decide +kernel
theorem dX7_laws_8 : decode cX7_laws 8 = .ok (.ifCond .eq 5, 3) := by decide +kernel
theorem dX7_laws_11 : decode cX7_laws 11 = .ok (.iload_n 3, 1) := by decide +kernel
theorem dX7_laws_12 : decode cX7_laws 12 = .ok (.ireturn, 1) := by decide +kernel
theorem dX7_laws_13 : decode cX7_laws 13 = .ok (.aload_n 0, 1) := by decide +kernel
theorem dX7_laws_14 : decode cX7_laws 14 = .ok (.getfield 32, 3) := by decide +kernel
theorem dX7_laws_17 : decode cX7_laws 17 = .ok (.aload_n 0, 1) := by decide +kernel
theorem dX7_laws_18 : decode cX7_laws 18 = .ok (.getfield 28, 3) := by decide +kernel
theorem dX7_laws_21 : decode cX7_laws 21 = .ok (.invokevirtual 197, 3) := by decide +kernel
theorem dX7_laws_24 : decode cX7_laws 24 = .ok (.iconst 0, 1) := by decide +kernel
theorem dX7_laws_25 : decode cX7_laws 25 = .ok (.istore 4, 2) := by decide +kernel
theorem dX7_laws_27 : decode cX7_laws 27 = .ok (.iconst 0, 1) := by decide +kernel
theorem dX7_laws_28 : decode cX7_laws 28 = .ok (.istore 5, 2) := by decide +kernel
theorem dX7_laws_30 : decode cX7_laws 30 = .ok (.iload 5, 2) := by decide +kernel
theorem dX7_laws_32 : decode cX7_laws 32 = .ok (.aload_n 0, 1) := by decide +kernel
theorem dX7_laws_33 : decode cX7_laws 33 = .ok (.getfield 10, 3) := by decide +kernel
theorem dX7_laws_36 : decode cX7_laws 36 = .ok (.getfield 109, 3) := by decide +kernel
theorem dX7_laws_39 : decode cX7_laws 39 = .ok (.if_icmp .ge 32, 3) := by decide +kernel
theorem dX7_laws_42 : decode cX7_laws 42 = .ok (.aload_n 0, 1) := by decide +kernel
theorem dX7_laws_43 : decode cX7_laws 43 = .ok (.getfield 32, 3) := by decide +kernel
theorem dX7_laws_46 : decode cX7_laws 46 = .ok (.iload 5, 2) := by decide +kernel
theorem dX7_laws_48 : decode cX7_laws 48 = .ok (.putfield 112, 3) := by decide +kernel
theorem dX7_laws_51 : decode cX7_laws 51 = .ok (.iload 4, 2) := by decide +kernel
theorem dX7_laws_53 : decode cX7_laws 53 = .ok (.aload_n 0, 1) := by decide +kernel
theorem dX7_laws_54 : decode cX7_laws 54 = .ok (.iload_n 1, 1) := by decide +kernel
theorem dX7_laws_55 : decode cX7_laws 55 = .ok (.iload_n 2, 1) := by decide +kernel
theorem dX7_laws_56 : decode cX7_laws 56 = .ok (.invokevirtual 270, 3) := by decide +kernel
theorem dX7_laws_59 : decode cX7_laws 59 = .ok (.iload 5, 2) := by decide +kernel
theorem dX7_laws_61 : decode cX7_laws 61 = .ok (.ishl, 1) := by decide +kernel
theorem dX7_laws_62 : decode cX7_laws 62 = .ok (.ior, 1) := by decide +kernel
theorem dX7_laws_63 : decode cX7_laws 63 = .ok (.istore 4, 2) := by decide +kernel
theorem dX7_laws_65 : decode cX7_laws 65 = .ok (.iinc 5 1, 3) := by decide +kernel
theorem dX7_laws_68 : decode cX7_laws 68 = .ok (.goto (-38), 3) := by decide +kernel
theorem dX7_laws_71 : decode cX7_laws 71 = .ok (.iload 4, 2) := by decide +kernel
theorem dX7_laws_73 : decode cX7_laws 73 = .ok (.ireturn, 1) := by decide +kernel
theorem dX7_amiss_0 : decode cX7_amiss 0 = .ok (.aload_n 0, 1) := by decide +kernel
theorem dX7_amiss_1 : decode cX7_amiss 1 = .ok (.iload_n 1, 1) := by decide +kernel
theorem dX7_amiss_2 : decode cX7_amiss 2 = .ok (.iload_n 2, 1) := by decide +kernel
theorem dX7_amiss_3 : decode cX7_amiss 3 = .ok (.invokevirtual 260, 3) := by decide +kernel
theorem dX7_amiss_6 : decode cX7_amiss 6 = .ok (.ifCond .eq 7, 3) := by decide +kernel
theorem dX7_amiss_9 : decode cX7_amiss 9 = .ok (.ldc2_w 245, 3) := by decide +kernel
theorem dX7_amiss_12 : decode cX7_amiss 12 = .ok (.lreturn, 1) := by decide +kernel
theorem dX7_amiss_13 : decode cX7_amiss 13 = .ok (.lconst 0, 1) := by decide +kernel
theorem dX7_amiss_14 : decode cX7_amiss 14 = .ok (.lstore_n 3, 1) := by decide +kernel
theorem dX7_amiss_15 : decode cX7_amiss 15 = .ok (.iconst 0, 1) := by decide +kernel
theorem dX7_amiss_16 : decode cX7_amiss 16 = .ok (.istore 5, 2) := by decide +kernel
theorem dX7_amiss_18 : decode cX7_amiss 18 = .ok (.iload 5, 2) := by decide +kernel
theorem dX7_amiss_20 : decode cX7_amiss 20 = .ok (.aload_n 0, 1) := by decide +kernel
theorem dX7_amiss_21 : decode cX7_amiss 21 = .ok (.getfield 28, 3) := by decide +kernel
theorem dX7_amiss_24 : decode cX7_amiss 24 = .ok (.getfield 99, 3) := by decide +kernel
theorem dX7_amiss_27 : decode cX7_amiss 27 = .ok (.if_icmp .ge 73, 3) := by decide +kernel
theorem dX7_amiss_30 : decode cX7_amiss 30 = .ok (.aload_n 0, 1) := by decide +kernel
theorem dX7_amiss_31 : decode cX7_amiss 31 = .ok (.getfield 61, 3) := by decide +kernel
theorem dX7_amiss_34 : decode cX7_amiss 34 = .ok (.iload_n 1, 1) := by decide +kernel
theorem dX7_amiss_35 : decode cX7_amiss 35 = .ok (.iload 5, 2) := by decide +kernel
theorem dX7_amiss_37 : decode cX7_amiss 37 = .ok (.invokevirtual 282, 3) := by decide +kernel
theorem dX7_amiss_40 : decode cX7_amiss 40 = .ok (.i2l, 1) := by decide +kernel
theorem dX7_amiss_41 : decode cX7_amiss 41 = .ok (.aload_n 0, 1) := by decide +kernel
theorem dX7_amiss_42 : decode cX7_amiss 42 = .ok (.getfield 28, 3) := by decide +kernel
theorem dX7_amiss_45 : decode cX7_amiss 45 = .ok (.iload 5, 2) := by decide +kernel
theorem dX7_amiss_47 : decode cX7_amiss 47 = .ok (.iload_n 2, 1) := by decide +kernel
theorem dX7_amiss_48 : decode cX7_amiss 48 = .ok (.invokevirtual 181, 3) := by decide +kernel
theorem dX7_amiss_51 : decode cX7_amiss 51 = .ok (.i2l, 1) := by decide +kernel
theorem dX7_amiss_52 : decode cX7_amiss 52 = .ok (.lsub, 1) := by decide +kernel
theorem dX7_amiss_53 : decode cX7_amiss 53 = .ok (.lstore 6, 2) := by decide +kernel
theorem dX7_amiss_55 : decode cX7_amiss 55 = .ok (.lload_n 3, 1) := by decide +kernel
theorem dX7_amiss_56 : decode cX7_amiss 56 = .ok (.lload 6, 2) := by decide +kernel
theorem dX7_amiss_58 : decode cX7_amiss 58 = .ok (.invokestatic 285, 3) := by decide +kernel
theorem dX7_amiss_61 : decode cX7_amiss 61 = .ok (.aload_n 0, 1) := by decide +kernel
theorem dX7_amiss_62 : decode cX7_amiss 62 = .ok (.getfield 28, 3) := by decide +kernel
theorem dX7_amiss_65 : decode cX7_amiss 65 = .ok (.iconst 2, 1) := by decide +kernel
theorem dX7_amiss_66 : decode cX7_amiss 66 = .ok (.aload_n 0, 1) := by decide +kernel
theorem dX7_amiss_67 : decode cX7_amiss 67 = .ok (.getfield 28, 3) := by decide +kernel
theorem dX7_amiss_70 : decode cX7_amiss 70 = .ok (.getfield 147, 3) := by decide +kernel
theorem dX7_amiss_73 : decode cX7_amiss 73 = .ok (.iload 5, 2) := by decide +kernel
theorem dX7_amiss_75 : decode cX7_amiss 75 = .ok (.iaload, 1) := by decide +kernel
theorem dX7_amiss_76 : decode cX7_amiss 76 = .ok (.iload_n 2, 1) := by decide +kernel
theorem dX7_amiss_77 : decode cX7_amiss 77 = .ok (.aload_n 0, 1) := by decide +kernel
theorem dX7_amiss_78 : decode cX7_amiss 78 = .ok (.getfield 28, 3) := by decide +kernel
theorem dX7_amiss_81 : decode cX7_amiss 81 = .ok (.getfield 144, 3) := by decide +kernel
theorem dX7_amiss_84 : decode cX7_amiss 84 = .ok (.iload 5, 2) := by decide +kernel
theorem dX7_amiss_86 : decode cX7_amiss 86 = .ok (.iaload, 1) := by decide +kernel
theorem dX7_amiss_87 : decode cX7_amiss 87 = .ok (.invokevirtual 130, 3) := by decide +kernel
theorem dX7_amiss_90 : decode cX7_amiss 90 = .ok (.i2l, 1) := by decide +kernel
theorem dX7_amiss_91 : decode cX7_amiss 91 = .ok (.lmul, 1) := by decide +kernel
theorem dX7_amiss_92 : decode cX7_amiss 92 = .ok (.ladd, 1) := by decide +kernel
theorem dX7_amiss_93 : decode cX7_amiss 93 = .ok (.lstore_n 3, 1) := by decide +kernel
theorem dX7_amiss_94 : decode cX7_amiss 94 = .ok (.iinc 5 1, 3) := by decide +kernel
theorem dX7_amiss_97 : decode cX7_amiss 97 = .ok (.goto (-79), 3) := by decide +kernel
theorem dX7_amiss_100 : decode cX7_amiss 100 = .ok (.lload_n 3, 1) := by decide +kernel
theorem dX7_amiss_101 : decode cX7_amiss 101 = .ok (.lreturn, 1) := by decide +kernel
theorem dX7_film_0 : decode cX7_film 0 = .ok (.iload_n 1, 1) := by decide +kernel
theorem dX7_film_1 : decode cX7_film 1 = .ok (.invokestatic 291, 3) := by decide +kernel
theorem dX7_film_4 : decode cX7_film 4 = .ok (.ifCond .ne 6, 3) := by decide +kernel
theorem dX7_film_7 : decode cX7_film 7 = .ok (.bipush (-2), 2) := by decide +kernel
theorem dX7_film_9 : decode cX7_film 9 = .ok (.ireturn, 1) := by decide +kernel
theorem dX7_film_10 : decode cX7_film 10 = .ok (.aload_n 0, 1) := by decide +kernel
theorem dX7_film_11 : decode cX7_film 11 = .ok (.getfield 28, 3) := by decide +kernel
theorem dX7_film_14 : decode cX7_film 14 = .ok (.iload_n 2, 1) := by decide +kernel
theorem dX7_film_15 : decode cX7_film 15 = .ok (.invokevirtual 127, 3) := by decide +kernel
theorem dX7_film_18 : decode cX7_film 18 = .ok (.ifCond .ne 6, 3) := by decide +kernel
theorem dX7_film_21 : decode cX7_film 21 = .ok (.bipush (-6), 2) := by decide +kernel
theorem dX7_film_23 : decode cX7_film 23 = .ok (.ireturn, 1) := by decide +kernel
theorem dX7_film_24 : decode cX7_film 24 = .ok (.aload_n 0, 1) := by decide +kernel
theorem dX7_film_25 : decode cX7_film 25 = .ok (.getfield 61, 3) := by decide +kernel
theorem dX7_film_28 : decode cX7_film 28 = .ok (.iload_n 1, 1) := by decide +kernel
theorem dX7_film_29 : decode cX7_film 29 = .ok (.iconst 0, 1) := by decide +kernel
theorem dX7_film_30 : decode cX7_film 30 = .ok (.aload_n 0, 1) := by decide +kernel
theorem dX7_film_31 : decode cX7_film 31 = .ok (.getfield 28, 3) := by decide +kernel
theorem dX7_film_34 : decode cX7_film 34 = .ok (.getfield 99, 3) := by decide +kernel
theorem dX7_film_37 : decode cX7_film 37 = .ok (.invokevirtual 294, 3) := by decide +kernel
theorem dX7_film_40 : decode cX7_film 40 = .ok (.iconst 0, 1) := by decide +kernel
theorem dX7_film_41 : decode cX7_film 41 = .ok (.istore_n 3, 1) := by decide +kernel
theorem dX7_film_42 : decode cX7_film 42 = .ok (.iload_n 3, 1) := by decide +kernel
theorem dX7_film_43 : decode cX7_film 43 = .ok (.aload_n 0, 1) := by decide +kernel
theorem dX7_film_44 : decode cX7_film 44 = .ok (.getfield 28, 3) := by decide +kernel
theorem dX7_film_47 : decode cX7_film 47 = .ok (.getfield 99, 3) := by decide +kernel
theorem dX7_film_50 : decode cX7_film 50 = .ok (.if_icmp .ge 27, 3) := by decide +kernel
theorem dX7_film_53 : decode cX7_film 53 = .ok (.aload_n 0, 1) := by decide +kernel
theorem dX7_film_54 : decode cX7_film 54 = .ok (.getfield 61, 3) := by decide +kernel
theorem dX7_film_57 : decode cX7_film 57 = .ok (.iload_n 1, 1) := by decide +kernel
theorem dX7_film_58 : decode cX7_film 58 = .ok (.iload_n 3, 1) := by decide +kernel
theorem dX7_film_59 : decode cX7_film 59 = .ok (.aload_n 0, 1) := by decide +kernel
theorem dX7_film_60 : decode cX7_film 60 = .ok (.getfield 28, 3) := by decide +kernel
theorem dX7_film_63 : decode cX7_film 63 = .ok (.iload_n 3, 1) := by decide +kernel
theorem dX7_film_64 : decode cX7_film 64 = .ok (.iload_n 2, 1) := by decide +kernel
theorem dX7_film_65 : decode cX7_film 65 = .ok (.invokevirtual 181, 3) := by decide +kernel
theorem dX7_film_68 : decode cX7_film 68 = .ok (.invokevirtual 297, 3) := by decide +kernel
theorem dX7_film_71 : decode cX7_film 71 = .ok (.iinc 3 1, 3) := by decide +kernel
theorem dX7_film_74 : decode cX7_film 74 = .ok (.goto (-32), 3) := by decide +kernel
theorem dX7_film_77 : decode cX7_film 77 = .ok (.aload_n 0, 1) := by decide +kernel
theorem dX7_film_78 : decode cX7_film 78 = .ok (.getfield 28, 3) := by decide +kernel
theorem dX7_film_81 : decode cX7_film 81 = .ok (.getfield 99, 3) := by decide +kernel
theorem dX7_film_84 : decode cX7_film 84 = .ok (.ireturn, 1) := by decide +kernel
theorem dX7_refusedSheet_0 : decode cX7_refusedSheet 0 = .ok (.iload_n 1, 1) := by decide +kernel
theorem dX7_refusedSheet_1 : decode cX7_refusedSheet 1 = .ok (.invokestatic 291, 3) := by decide +kernel
theorem dX7_refusedSheet_4 : decode cX7_refusedSheet 4 = .ok (.ifCond .ne 6, 3) := by decide +kernel
theorem dX7_refusedSheet_7 : decode cX7_refusedSheet 7 = .ok (.bipush (-2), 2) := by decide +kernel
theorem dX7_refusedSheet_9 : decode cX7_refusedSheet 9 = .ok (.ireturn, 1) := by decide +kernel
theorem dX7_refusedSheet_10 : decode cX7_refusedSheet 10 = .ok (.aload_n 0, 1) := by decide +kernel
theorem dX7_refusedSheet_11 : decode cX7_refusedSheet 11 = .ok (.getfield 61, 3) := by decide +kernel
theorem dX7_refusedSheet_14 : decode cX7_refusedSheet 14 = .ok (.iload_n 1, 1) := by decide +kernel
theorem dX7_refusedSheet_15 : decode cX7_refusedSheet 15 = .ok (.invokevirtual 300, 3) := by decide +kernel
theorem dX7_refusedSheet_18 : decode cX7_refusedSheet 18 = .ok (.ifCond .eq 6, 3) := by decide +kernel
theorem dX7_refusedSheet_21 : decode cX7_refusedSheet 21 = .ok (.bipush (-11), 2) := by decide +kernel
theorem dX7_refusedSheet_23 : decode cX7_refusedSheet 23 = .ok (.ireturn, 1) := by decide +kernel
theorem dX7_refusedSheet_24 : decode cX7_refusedSheet 24 = .ok (.aload_n 0, 1) := by decide +kernel
theorem dX7_refusedSheet_25 : decode cX7_refusedSheet 25 = .ok (.getfield 61, 3) := by decide +kernel
theorem dX7_refusedSheet_28 : decode cX7_refusedSheet 28 = .ok (.getfield 303, 3) := by decide +kernel
theorem dX7_refusedSheet_31 : decode cX7_refusedSheet 31 = .ok (.iload_n 1, 1) := by decide +kernel
theorem dX7_refusedSheet_32 : decode cX7_refusedSheet 32 = .ok (.iaload, 1) := by decide +kernel
theorem dX7_refusedSheet_33 : decode cX7_refusedSheet 33 = .ok (.aload_n 0, 1) := by decide +kernel
theorem dX7_refusedSheet_34 : decode cX7_refusedSheet 34 = .ok (.getfield 28, 3) := by decide +kernel
theorem dX7_refusedSheet_37 : decode cX7_refusedSheet 37 = .ok (.getfield 99, 3) := by decide +kernel
theorem dX7_refusedSheet_40 : decode cX7_refusedSheet 40 = .ok (.if_icmp .ne 7, 3) := by decide +kernel
theorem dX7_refusedSheet_43 : decode cX7_refusedSheet 43 = .ok (.iconst 0, 1) := by decide +kernel
theorem dX7_refusedSheet_44 : decode cX7_refusedSheet 44 = .ok (.goto 5, 3) := by decide +kernel
theorem dX7_refusedSheet_47 : decode cX7_refusedSheet 47 = .ok (.bipush (-2), 2) := by decide +kernel
theorem dX7_refusedSheet_49 : decode cX7_refusedSheet 49 = .ok (.ireturn, 1) := by decide +kernel
theorem dX7_refusedJudging_0 : decode cX7_refusedJudging 0 = .ok (.aload_n 0, 1) := by decide +kernel
theorem dX7_refusedJudging_1 : decode cX7_refusedJudging 1 = .ok (.iload_n 1, 1) := by decide +kernel
theorem dX7_refusedJudging_2 : decode cX7_refusedJudging 2 = .ok (.invokevirtual 279, 3) := by decide +kernel
theorem dX7_refusedJudging_5 : decode cX7_refusedJudging 5 = .ok (.istore_n 3, 1) := by decide +kernel
theorem dX7_refusedJudging_6 : decode cX7_refusedJudging 6 = .ok (.iload_n 3, 1) := by decide +kernel
theorem dX7_refusedJudging_7 : decode cX7_refusedJudging 7 = .ok (.ifCond .eq 5, 3) := by decide +kernel
theorem dX7_refusedJudging_10 : decode cX7_refusedJudging 10 = .ok (.iload_n 3, 1) := by decide +kernel
theorem dX7_refusedJudging_11 : decode cX7_refusedJudging 11 = .ok (.ireturn, 1) := by decide +kernel
theorem dX7_refusedJudging_12 : decode cX7_refusedJudging 12 = .ok (.aload_n 0, 1) := by decide +kernel
theorem dX7_refusedJudging_13 : decode cX7_refusedJudging 13 = .ok (.getfield 28, 3) := by decide +kernel
theorem dX7_refusedJudging_16 : decode cX7_refusedJudging 16 = .ok (.iload_n 2, 1) := by decide +kernel
theorem dX7_refusedJudging_17 : decode cX7_refusedJudging 17 = .ok (.invokevirtual 127, 3) := by decide +kernel
theorem dX7_refusedJudging_20 : decode cX7_refusedJudging 20 = .ok (.ifCond .eq 7, 3) := by decide +kernel
theorem dX7_refusedJudging_23 : decode cX7_refusedJudging 23 = .ok (.iconst 0, 1) := by decide +kernel
theorem dX7_refusedJudging_24 : decode cX7_refusedJudging 24 = .ok (.goto 5, 3) := by decide +kernel
theorem dX7_refusedJudging_27 : decode cX7_refusedJudging 27 = .ok (.bipush (-6), 2) := by decide +kernel
theorem dX7_refusedJudging_29 : decode cX7_refusedJudging 29 = .ok (.ireturn, 1) := by decide +kernel
theorem dX7_refusedJudgingJoke_0 : decode cX7_refusedJudgingJoke 0 = .ok (.aload_n 0, 1) := by decide +kernel
theorem dX7_refusedJudgingJoke_1 : decode cX7_refusedJudgingJoke 1 = .ok (.iload_n 1, 1) := by decide +kernel
theorem dX7_refusedJudgingJoke_2 : decode cX7_refusedJudgingJoke 2 = .ok (.iload_n 2, 1) := by decide +kernel
theorem dX7_refusedJudgingJoke_3 : decode cX7_refusedJudgingJoke 3 = .ok (.invokevirtual 260, 3) := by decide +kernel
theorem dX7_refusedJudgingJoke_6 : decode cX7_refusedJudgingJoke 6 = .ok (.istore 4, 2) := by decide +kernel
theorem dX7_refusedJudgingJoke_8 : decode cX7_refusedJudgingJoke 8 = .ok (.iload 4, 2) := by decide +kernel
theorem dX7_refusedJudgingJoke_10 : decode cX7_refusedJudgingJoke 10 = .ok (.ifCond .eq 6, 3) := by decide +kernel
theorem dX7_refusedJudgingJoke_13 : decode cX7_refusedJudgingJoke 13 = .ok (.iload 4, 2) := by decide +kernel
theorem dX7_refusedJudgingJoke_15 : decode cX7_refusedJudgingJoke 15 = .ok (.ireturn, 1) := by decide +kernel
theorem dX7_refusedJudgingJoke_16 : decode cX7_refusedJudgingJoke 16 = .ok (.iload_n 3, 1) := by decide +kernel
theorem dX7_refusedJudgingJoke_17 : decode cX7_refusedJudgingJoke 17 = .ok (.ifCond .lt 17, 3) := by decide +kernel
theorem dX7_refusedJudgingJoke_20 : decode cX7_refusedJudgingJoke 20 = .ok (.aload_n 0, 1) := by decide +kernel
theorem dX7_refusedJudgingJoke_21 : decode cX7_refusedJudgingJoke 21 = .ok (.getfield 28, 3) := by decide +kernel
theorem dX7_refusedJudgingJoke_24 : decode cX7_refusedJudgingJoke 24 = .ok (.iload_n 3, 1) := by decide +kernel
theorem dX7_refusedJudgingJoke_25 : decode cX7_refusedJudgingJoke 25 = .ok (.bipush 10, 2) := by decide +kernel
theorem dX7_refusedJudgingJoke_27 : decode cX7_refusedJudgingJoke 27 = .ok (.idiv, 1) := by decide +kernel
theorem dX7_refusedJudgingJoke_28 : decode cX7_refusedJudgingJoke 28 = .ok (.invokevirtual 138, 3) := by decide +kernel
theorem dX7_refusedJudgingJoke_31 : decode cX7_refusedJudgingJoke 31 = .ok (.ifCond .ne 6, 3) := by decide +kernel
theorem dX7_refusedJudgingJoke_34 : decode cX7_refusedJudgingJoke 34 = .ok (.bipush (-5), 2) := by decide +kernel
theorem dX7_refusedJudgingJoke_36 : decode cX7_refusedJudgingJoke 36 = .ok (.ireturn, 1) := by decide +kernel
theorem dX7_refusedJudgingJoke_37 : decode cX7_refusedJudgingJoke 37 = .ok (.iload_n 3, 1) := by decide +kernel
theorem dX7_refusedJudgingJoke_38 : decode cX7_refusedJudgingJoke 38 = .ok (.bipush 10, 2) := by decide +kernel
theorem dX7_refusedJudgingJoke_40 : decode cX7_refusedJudgingJoke 40 = .ok (.irem, 1) := by decide +kernel
theorem dX7_refusedJudgingJoke_41 : decode cX7_refusedJudgingJoke 41 = .ok (.iconst 1, 1) := by decide +kernel
theorem dX7_refusedJudgingJoke_42 : decode cX7_refusedJudgingJoke 42 = .ok (.if_icmp .gt 7, 3) := by decide +kernel
theorem dX7_refusedJudgingJoke_45 : decode cX7_refusedJudgingJoke 45 = .ok (.iconst 0, 1) := by decide +kernel
theorem dX7_refusedJudgingJoke_46 : decode cX7_refusedJudgingJoke 46 = .ok (.goto 5, 3) := by decide +kernel
theorem dX7_refusedJudgingJoke_49 : decode cX7_refusedJudgingJoke 49 = .ok (.bipush (-7), 2) := by decide +kernel
theorem dX7_refusedJudgingJoke_51 : decode cX7_refusedJudgingJoke 51 = .ok (.ireturn, 1) := by decide +kernel
theorem dX7_otherwise_0 : decode cX7_otherwise 0 = .ok (.iconst 0, 1) := by decide +kernel
theorem dX7_otherwise_1 : decode cX7_otherwise 1 = .ok (.istore 4, 2) := by decide +kernel
theorem dX7_otherwise_3 : decode cX7_otherwise 3 = .ok (.iload 4, 2) := by decide +kernel
theorem dX7_otherwise_5 : decode cX7_otherwise 5 = .ok (.aload_n 1, 1) := by decide +kernel
theorem dX7_otherwise_6 : decode cX7_otherwise 6 = .ok (.getfield 99, 3) := by decide +kernel
theorem dX7_otherwise_9 : decode cX7_otherwise 9 = .ok (.if_icmp .ge 32, 3) := by decide +kernel
theorem dX7_otherwise_12 : decode cX7_otherwise 12 = .ok (.aload_n 0, 1) := by decide +kernel
theorem dX7_otherwise_13 : decode cX7_otherwise 13 = .ok (.getfield 61, 3) := by decide +kernel
theorem dX7_otherwise_16 : decode cX7_otherwise 16 = .ok (.iload_n 2, 1) := by decide +kernel
theorem dX7_otherwise_17 : decode cX7_otherwise 17 = .ok (.iload 4, 2) := by decide +kernel
theorem dX7_otherwise_19 : decode cX7_otherwise 19 = .ok (.invokevirtual 282, 3) := by decide +kernel
theorem dX7_otherwise_22 : decode cX7_otherwise 22 = .ok (.aload_n 1, 1) := by decide +kernel
theorem dX7_otherwise_23 : decode cX7_otherwise 23 = .ok (.iload 4, 2) := by decide +kernel
theorem dX7_otherwise_25 : decode cX7_otherwise 25 = .ok (.iload_n 3, 1) := by decide +kernel
theorem dX7_otherwise_26 : decode cX7_otherwise 26 = .ok (.invokevirtual 181, 3) := by decide +kernel
theorem dX7_otherwise_29 : decode cX7_otherwise 29 = .ok (.if_icmp .eq 6, 3) := by decide +kernel
theorem dX7_otherwise_32 : decode cX7_otherwise 32 = .ok (.iload 4, 2) := by decide +kernel
theorem dX7_otherwise_34 : decode cX7_otherwise 34 = .ok (.ireturn, 1) := by decide +kernel
theorem dX7_otherwise_35 : decode cX7_otherwise 35 = .ok (.iinc 4 1, 3) := by decide +kernel
theorem dX7_otherwise_38 : decode cX7_otherwise 38 = .ok (.goto (-35), 3) := by decide +kernel
theorem dX7_otherwise_41 : decode cX7_otherwise 41 = .ok (.iconst (-1), 1) := by decide +kernel
theorem dX7_otherwise_42 : decode cX7_otherwise 42 = .ok (.ireturn, 1) := by decide +kernel
theorem dX7_thoughtFits_0 : decode cX7_thoughtFits 0 = .ok (.aload_n 0, 1) := by decide +kernel
theorem dX7_thoughtFits_1 : decode cX7_thoughtFits 1 = .ok (.aload_n 0, 1) := by decide +kernel
theorem dX7_thoughtFits_2 : decode cX7_thoughtFits 2 = .ok (.getfield 32, 3) := by decide +kernel
theorem dX7_thoughtFits_5 : decode cX7_thoughtFits 5 = .ok (.iload_n 1, 1) := by decide +kernel
theorem dX7_thoughtFits_6 : decode cX7_thoughtFits 6 = .ok (.iload_n 2, 1) := by decide +kernel
theorem dX7_thoughtFits_7 : decode cX7_thoughtFits 7 = .ok (.invokevirtual 263, 3) := by decide +kernel
theorem dX7_thoughtFits_10 : decode cX7_thoughtFits 10 = .ok (.iconst (-1), 1) := by decide +kernel
theorem dX7_thoughtFits_11 : decode cX7_thoughtFits 11 = .ok (.if_icmp .ne 7, 3) := by decide +kernel
theorem dX7_thoughtFits_14 : decode cX7_thoughtFits 14 = .ok (.iconst 1, 1) := by decide +kernel
theorem dX7_thoughtFits_15 : decode cX7_thoughtFits 15 = .ok (.goto 4, 3) := by decide +kernel
theorem dX7_thoughtFits_18 : decode cX7_thoughtFits 18 = .ok (.iconst 0, 1) := by decide +kernel
theorem dX7_thoughtFits_19 : decode cX7_thoughtFits 19 = .ok (.ireturn, 1) := by decide +kernel
theorem dX7_drawn_0 : decode cX7_drawn 0 = .ok (.iload_n 1, 1) := by decide +kernel
theorem dX7_drawn_1 : decode cX7_drawn 1 = .ok (.iconst 0, 1) := by decide +kernel
theorem dX7_drawn_2 : decode cX7_drawn 2 = .ok (.ldc_w 306, 3) := by decide +kernel
theorem dX7_drawn_5 : decode cX7_drawn 5 = .ok (.invokestatic 116, 3) := by decide +kernel
theorem dX7_drawn_8 : decode cX7_drawn 8 = .ok (.ifCond .eq 13, 3) := by decide +kernel
theorem dX7_drawn_11 : decode cX7_drawn 11 = .ok (.iload_n 2, 1) := by decide +kernel
theorem dX7_drawn_12 : decode cX7_drawn 12 = .ok (.iconst 0, 1) := by decide +kernel
theorem dX7_drawn_13 : decode cX7_drawn 13 = .ok (.bipush 50, 2) := by decide +kernel
theorem dX7_drawn_15 : decode cX7_drawn 15 = .ok (.invokestatic 116, 3) := by decide +kernel
theorem dX7_drawn_18 : decode cX7_drawn 18 = .ok (.ifCond .ne 6, 3) := by decide +kernel
theorem dX7_drawn_21 : decode cX7_drawn 21 = .ok (.bipush (-2), 2) := by decide +kernel
theorem dX7_drawn_23 : decode cX7_drawn 23 = .ok (.ireturn, 1) := by decide +kernel
theorem dX7_drawn_24 : decode cX7_drawn 24 = .ok (.aload_n 0, 1) := by decide +kernel
theorem dX7_drawn_25 : decode cX7_drawn 25 = .ok (.getfield 28, 3) := by decide +kernel
theorem dX7_drawn_28 : decode cX7_drawn 28 = .ok (.invokevirtual 194, 3) := by decide +kernel
theorem dX7_drawn_31 : decode cX7_drawn 31 = .ok (.ifCond .eq 12, 3) := by decide +kernel
theorem dX7_drawn_34 : decode cX7_drawn 34 = .ok (.aload_n 0, 1) := by decide +kernel
theorem dX7_drawn_35 : decode cX7_drawn 35 = .ok (.iload_n 1, 1) := by decide +kernel
theorem dX7_drawn_36 : decode cX7_drawn 36 = .ok (.iload_n 2, 1) := by decide +kernel
theorem dX7_drawn_37 : decode cX7_drawn 37 = .ok (.invokevirtual 307, 3) := by decide +kernel
theorem dX7_drawn_40 : decode cX7_drawn 40 = .ok (.goto 4, 3) := by decide +kernel
theorem dX7_drawn_43 : decode cX7_drawn 43 = .ok (.iconst (-1), 1) := by decide +kernel
theorem dX7_drawn_44 : decode cX7_drawn 44 = .ok (.ireturn, 1) := by decide +kernel
theorem dX7_odds_0 : decode cX7_odds 0 = .ok (.iload_n 1, 1) := by decide +kernel
theorem dX7_odds_1 : decode cX7_odds 1 = .ok (.iconst 0, 1) := by decide +kernel
theorem dX7_odds_2 : decode cX7_odds 2 = .ok (.ldc_w 306, 3) := by decide +kernel
theorem dX7_odds_5 : decode cX7_odds 5 = .ok (.invokestatic 116, 3) := by decide +kernel
theorem dX7_odds_8 : decode cX7_odds 8 = .ok (.ifCond .eq 28, 3) := by decide +kernel
theorem dX7_odds_11 : decode cX7_odds 11 = .ok (.iload_n 3, 1) := by decide +kernel
theorem dX7_odds_12 : decode cX7_odds 12 = .ok (.iconst 0, 1) := by decide +kernel
theorem dX7_odds_13 : decode cX7_odds 13 = .ok (.sipush 9999, 3) := by decide +kernel
theorem dX7_odds_16 : decode cX7_odds 16 = .ok (.invokestatic 116, 3) := by decide +kernel
theorem dX7_odds_19 : decode cX7_odds 19 = .ok (.ifCond .eq 17, 3) := by decide +kernel
theorem dX7_odds_22 : decode cX7_odds 22 = .ok (.iload 4, 2) := by decide +kernel
theorem dX7_odds_24 : decode cX7_odds 24 = .ok (.iconst 0, 1) := by decide +kernel
theorem dX7_odds_25 : decode cX7_odds 25 = .ok (.iconst 1, 1) := by decide +kernel
theorem dX7_odds_26 : decode cX7_odds 26 = .ok (.invokestatic 116, 3) := by decide +kernel
theorem dX7_odds_29 : decode cX7_odds 29 = .ok (.ifCond .eq 7, 3) := by decide +kernel
theorem dX7_odds_32 : decode cX7_odds 32 = .ok (.iconst 1, 1) := by decide +kernel
theorem dX7_odds_33 : decode cX7_odds 33 = .ok (.goto 4, 3) := by decide +kernel
theorem dX7_odds_36 : decode cX7_odds 36 = .ok (.iconst 0, 1) := by decide +kernel
theorem dX7_odds_37 : decode cX7_odds 37 = .ok (.istore 5, 2) := by decide +kernel
theorem dX7_odds_39 : decode cX7_odds 39 = .ok (.iload 5, 2) := by decide +kernel
theorem dX7_odds_41 : decode cX7_odds 41 = .ok (.ifCond .eq 17, 3) := by decide +kernel
theorem dX7_odds_44 : decode cX7_odds 44 = .ok (.iload_n 2, 1) := by decide +kernel
theorem dX7_odds_45 : decode cX7_odds 45 = .ok (.ifCond .lt 13, 3) := by decide +kernel
theorem dX7_odds_48 : decode cX7_odds 48 = .ok (.aload_n 0, 1) := by decide +kernel
theorem dX7_odds_49 : decode cX7_odds 49 = .ok (.getfield 28, 3) := by decide +kernel
theorem dX7_odds_52 : decode cX7_odds 52 = .ok (.invokevirtual 194, 3) := by decide +kernel
theorem dX7_odds_55 : decode cX7_odds 55 = .ok (.ifCond .ne 7, 3) := by decide +kernel
theorem dX7_odds_58 : decode cX7_odds 58 = .ok (.ldc2_w 245, 3) := by decide +kernel
theorem dX7_odds_61 : decode cX7_odds 61 = .ok (.lreturn, 1) := by decide +kernel
theorem dX7_odds_62 : decode cX7_odds 62 = .ok (.iload_n 2, 1) := by decide +kernel
theorem dX7_odds_63 : decode cX7_odds 63 = .ok (.bipush 100, 2) := by decide +kernel
theorem dX7_odds_65 : decode cX7_odds 65 = .ok (.idiv, 1) := by decide +kernel
theorem dX7_odds_66 : decode cX7_odds 66 = .ok (.istore 6, 2) := by decide +kernel
theorem dX7_odds_68 : decode cX7_odds 68 = .ok (.iload_n 2, 1) := by decide +kernel
theorem dX7_odds_69 : decode cX7_odds 69 = .ok (.bipush 100, 2) := by decide +kernel
theorem dX7_odds_71 : decode cX7_odds 71 = .ok (.irem, 1) := by decide +kernel
theorem dX7_odds_72 : decode cX7_odds 72 = .ok (.istore 7, 2) := by decide +kernel
theorem dX7_odds_74 : decode cX7_odds 74 = .ok (.iload 6, 2) := by decide +kernel
theorem dX7_odds_76 : decode cX7_odds 76 = .ok (.bipush 50, 2) := by decide +kernel
theorem dX7_odds_78 : decode cX7_odds 78 = .ok (.if_icmp .gt 14, 3) := by decide +kernel
theorem dX7_odds_81 : decode cX7_odds 81 = .ok (.iload 7, 2) := by decide +kernel
theorem dX7_odds_83 : decode cX7_odds 83 = .ok (.iconst 1, 1) := by decide +kernel
theorem dX7_odds_84 : decode cX7_odds 84 = .ok (.bipush 50, 2) := by decide +kernel
theorem dX7_odds_86 : decode cX7_odds 86 = .ok (.invokestatic 116, 3) := by decide +kernel
theorem dX7_odds_89 : decode cX7_odds 89 = .ok (.ifCond .ne 7, 3) := by decide +kernel
theorem dX7_odds_92 : decode cX7_odds 92 = .ok (.ldc2_w 245, 3) := by decide +kernel
theorem dX7_odds_95 : decode cX7_odds 95 = .ok (.lreturn, 1) := by decide +kernel
theorem dX7_odds_96 : decode cX7_odds 96 = .ok (.iconst 0, 1) := by decide +kernel
theorem dX7_odds_97 : decode cX7_odds 97 = .ok (.istore 8, 2) := by decide +kernel
theorem dX7_odds_99 : decode cX7_odds 99 = .ok (.iconst 0, 1) := by decide +kernel
theorem dX7_odds_100 : decode cX7_odds 100 = .ok (.istore 9, 2) := by decide +kernel
theorem dX7_odds_102 : decode cX7_odds 102 = .ok (.iload 9, 2) := by decide +kernel
theorem dX7_odds_104 : decode cX7_odds 104 = .ok (.iload 7, 2) := by decide +kernel
theorem dX7_odds_106 : decode cX7_odds 106 = .ok (.if_icmp .ge 26, 3) := by decide +kernel
theorem dX7_odds_109 : decode cX7_odds 109 = .ok (.aload_n 0, 1) := by decide +kernel
theorem dX7_odds_110 : decode cX7_odds 110 = .ok (.iload_n 1, 1) := by decide +kernel
theorem dX7_odds_111 : decode cX7_odds 111 = .ok (.iload 9, 2) := by decide +kernel
theorem dX7_odds_113 : decode cX7_odds 113 = .ok (.iadd, 1) := by decide +kernel
theorem dX7_odds_114 : decode cX7_odds 114 = .ok (.iload 6, 2) := by decide +kernel
theorem dX7_odds_116 : decode cX7_odds 116 = .ok (.invokevirtual 307, 3) := by decide +kernel
theorem dX7_odds_119 : decode cX7_odds 119 = .ok (.iload_n 3, 1) := by decide +kernel
theorem dX7_odds_120 : decode cX7_odds 120 = .ok (.if_icmp .lt 6, 3) := by decide +kernel
theorem dX7_odds_123 : decode cX7_odds 123 = .ok (.iinc 8 1, 3) := by decide +kernel
theorem dX7_odds_126 : decode cX7_odds 126 = .ok (.iinc 9 1, 3) := by decide +kernel
theorem dX7_odds_129 : decode cX7_odds 129 = .ok (.goto (-27), 3) := by decide +kernel
theorem dX7_odds_132 : decode cX7_odds 132 = .ok (.iload 8, 2) := by decide +kernel
theorem dX7_odds_134 : decode cX7_odds 134 = .ok (.iload 7, 2) := by decide +kernel
theorem dX7_odds_136 : decode cX7_odds 136 = .ok (.invokestatic 310, 3) := by decide +kernel
theorem dX7_odds_139 : decode cX7_odds 139 = .ok (.istore 9, 2) := by decide +kernel
theorem dX7_odds_141 : decode cX7_odds 141 = .ok (.iload 4, 2) := by decide +kernel
theorem dX7_odds_143 : decode cX7_odds 143 = .ok (.ifCond .ne 8, 3) := by decide +kernel
theorem dX7_odds_146 : decode cX7_odds 146 = .ok (.iload 8, 2) := by decide +kernel
theorem dX7_odds_148 : decode cX7_odds 148 = .ok (.goto 5, 3) := by decide +kernel
theorem dX7_odds_151 : decode cX7_odds 151 = .ok (.iload 7, 2) := by decide +kernel
theorem dX7_odds_153 : decode cX7_odds 153 = .ok (.iload 9, 2) := by decide +kernel
theorem dX7_odds_155 : decode cX7_odds 155 = .ok (.idiv, 1) := by decide +kernel
theorem dX7_odds_156 : decode cX7_odds 156 = .ok (.i2l, 1) := by decide +kernel
theorem dX7_odds_157 : decode cX7_odds 157 = .ok (.lreturn, 1) := by decide +kernel
theorem dX7_drawnSum_0 : decode cX7_drawnSum 0 = .ok (.aload_n 0, 1) := by decide +kernel
theorem dX7_drawnSum_1 : decode cX7_drawnSum 1 = .ok (.getfield 32, 3) := by decide +kernel
theorem dX7_drawnSum_4 : decode cX7_drawnSum 4 = .ok (.aload_n 0, 1) := by decide +kernel
theorem dX7_drawnSum_5 : decode cX7_drawnSum 5 = .ok (.getfield 28, 3) := by decide +kernel
theorem dX7_drawnSum_8 : decode cX7_drawnSum 8 = .ok (.invokevirtual 197, 3) := by decide +kernel
theorem dX7_drawnSum_11 : decode cX7_drawnSum 11 = .ok (.iconst 1, 1) := by decide +kernel
theorem dX7_drawnSum_12 : decode cX7_drawnSum 12 = .ok (.aload_n 0, 1) := by decide +kernel
theorem dX7_drawnSum_13 : decode cX7_drawnSum 13 = .ok (.getfield 32, 3) := by decide +kernel
theorem dX7_drawnSum_16 : decode cX7_drawnSum 16 = .ok (.getfield 99, 3) := by decide +kernel
theorem dX7_drawnSum_19 : decode cX7_drawnSum 19 = .ok (.invokestatic 313, 3) := by decide +kernel
theorem dX7_drawnSum_22 : decode cX7_drawnSum 22 = .ok (.istore_n 3, 1) := by decide +kernel
theorem dX7_drawnSum_23 : decode cX7_drawnSum 23 = .ok (.iconst 1, 1) := by decide +kernel
theorem dX7_drawnSum_24 : decode cX7_drawnSum 24 = .ok (.aload_n 0, 1) := by decide +kernel
theorem dX7_drawnSum_25 : decode cX7_drawnSum 25 = .ok (.getfield 32, 3) := by decide +kernel
theorem dX7_drawnSum_28 : decode cX7_drawnSum 28 = .ok (.getfield 103, 3) := by decide +kernel
theorem dX7_drawnSum_31 : decode cX7_drawnSum 31 = .ok (.invokestatic 313, 3) := by decide +kernel
theorem dX7_drawnSum_34 : decode cX7_drawnSum 34 = .ok (.istore 4, 2) := by decide +kernel
theorem dX7_drawnSum_36 : decode cX7_drawnSum 36 = .ok (.iload_n 1, 1) := by decide +kernel
theorem dX7_drawnSum_37 : decode cX7_drawnSum 37 = .ok (.iconst 1, 1) := by decide +kernel
theorem dX7_drawnSum_38 : decode cX7_drawnSum 38 = .ok (.iadd, 1) := by decide +kernel
theorem dX7_drawnSum_39 : decode cX7_drawnSum 39 = .ok (.i2l, 1) := by decide +kernel
theorem dX7_drawnSum_40 : decode cX7_drawnSum 40 = .ok (.lstore 5, 2) := by decide +kernel
theorem dX7_drawnSum_42 : decode cX7_drawnSum 42 = .ok (.iconst 0, 1) := by decide +kernel
theorem dX7_drawnSum_43 : decode cX7_drawnSum 43 = .ok (.istore 7, 2) := by decide +kernel
theorem dX7_drawnSum_45 : decode cX7_drawnSum 45 = .ok (.iconst 0, 1) := by decide +kernel
theorem dX7_drawnSum_46 : decode cX7_drawnSum 46 = .ok (.istore 8, 2) := by decide +kernel
theorem dX7_drawnSum_48 : decode cX7_drawnSum 48 = .ok (.iload 8, 2) := by decide +kernel
theorem dX7_drawnSum_50 : decode cX7_drawnSum 50 = .ok (.iload_n 2, 1) := by decide +kernel
theorem dX7_drawnSum_51 : decode cX7_drawnSum 51 = .ok (.if_icmp .ge 49, 3) := by decide +kernel
theorem dX7_drawnSum_54 : decode cX7_drawnSum 54 = .ok (.lload 5, 2) := by decide +kernel
theorem dX7_drawnSum_56 : decode cX7_drawnSum 56 = .ok (.ldc2_w 316, 3) := by decide +kernel
theorem dX7_drawnSum_59 : decode cX7_drawnSum 59 = .ok (.lmul, 1) := by decide +kernel
theorem dX7_drawnSum_60 : decode cX7_drawnSum 60 = .ok (.ldc2_w 318, 3) := by decide +kernel
theorem dX7_drawnSum_63 : decode cX7_drawnSum 63 = .ok (.lrem, 1) := by decide +kernel
theorem dX7_drawnSum_64 : decode cX7_drawnSum 64 = .ok (.lstore 5, 2) := by decide +kernel
theorem dX7_drawnSum_66 : decode cX7_drawnSum 66 = .ok (.iload 7, 2) := by decide +kernel
theorem dX7_drawnSum_68 : decode cX7_drawnSum 68 = .ok (.aload_n 0, 1) := by decide +kernel
theorem dX7_drawnSum_69 : decode cX7_drawnSum 69 = .ok (.getfield 32, 3) := by decide +kernel
theorem dX7_drawnSum_72 : decode cX7_drawnSum 72 = .ok (.lload 5, 2) := by decide +kernel
theorem dX7_drawnSum_74 : decode cX7_drawnSum 74 = .ok (.iload_n 3, 1) := by decide +kernel
theorem dX7_drawnSum_75 : decode cX7_drawnSum 75 = .ok (.i2l, 1) := by decide +kernel
theorem dX7_drawnSum_76 : decode cX7_drawnSum 76 = .ok (.lrem, 1) := by decide +kernel
theorem dX7_drawnSum_77 : decode cX7_drawnSum 77 = .ok (.l2i, 1) := by decide +kernel
theorem dX7_drawnSum_78 : decode cX7_drawnSum 78 = .ok (.lload 5, 2) := by decide +kernel
theorem dX7_drawnSum_80 : decode cX7_drawnSum 80 = .ok (.iload_n 3, 1) := by decide +kernel
theorem dX7_drawnSum_81 : decode cX7_drawnSum 81 = .ok (.i2l, 1) := by decide +kernel
theorem dX7_drawnSum_82 : decode cX7_drawnSum 82 = .ok (.ldiv, 1) := by decide +kernel
theorem dX7_drawnSum_83 : decode cX7_drawnSum 83 = .ok (.iload 4, 2) := by decide +kernel
theorem dX7_drawnSum_85 : decode cX7_drawnSum 85 = .ok (.i2l, 1) := by decide +kernel
theorem dX7_drawnSum_86 : decode cX7_drawnSum 86 = .ok (.lrem, 1) := by decide +kernel
theorem dX7_drawnSum_87 : decode cX7_drawnSum 87 = .ok (.l2i, 1) := by decide +kernel
theorem dX7_drawnSum_88 : decode cX7_drawnSum 88 = .ok (.invokevirtual 184, 3) := by decide +kernel
theorem dX7_drawnSum_91 : decode cX7_drawnSum 91 = .ok (.iadd, 1) := by decide +kernel
theorem dX7_drawnSum_92 : decode cX7_drawnSum 92 = .ok (.istore 7, 2) := by decide +kernel
theorem dX7_drawnSum_94 : decode cX7_drawnSum 94 = .ok (.iinc 8 1, 3) := by decide +kernel
theorem dX7_drawnSum_97 : decode cX7_drawnSum 97 = .ok (.goto (-49), 3) := by decide +kernel
theorem dX7_drawnSum_100 : decode cX7_drawnSum 100 = .ok (.iload 7, 2) := by decide +kernel
theorem dX7_drawnSum_102 : decode cX7_drawnSum 102 = .ok (.ireturn, 1) := by decide +kernel
theorem dX7_commonDivisor_0 : decode cX7_commonDivisor 0 = .ok (.iconst 1, 1) := by decide +kernel
theorem dX7_commonDivisor_1 : decode cX7_commonDivisor 1 = .ok (.iload_n 1, 1) := by decide +kernel
theorem dX7_commonDivisor_2 : decode cX7_commonDivisor 2 = .ok (.invokestatic 313, 3) := by decide +kernel
theorem dX7_commonDivisor_5 : decode cX7_commonDivisor 5 = .ok (.istore_n 2, 1) := by decide +kernel
theorem dX7_commonDivisor_6 : decode cX7_commonDivisor 6 = .ok (.iload_n 2, 1) := by decide +kernel
theorem dX7_commonDivisor_7 : decode cX7_commonDivisor 7 = .ok (.iconst 1, 1) := by decide +kernel
theorem dX7_commonDivisor_8 : decode cX7_commonDivisor 8 = .ok (.if_icmp .le 23, 3) := by decide +kernel
theorem dX7_commonDivisor_11 : decode cX7_commonDivisor 11 = .ok (.iload_n 0, 1) := by decide +kernel
theorem dX7_commonDivisor_12 : decode cX7_commonDivisor 12 = .ok (.iload_n 2, 1) := by decide +kernel
theorem dX7_commonDivisor_13 : decode cX7_commonDivisor 13 = .ok (.irem, 1) := by decide +kernel
theorem dX7_commonDivisor_14 : decode cX7_commonDivisor 14 = .ok (.ifCond .ne 11, 3) := by decide +kernel
theorem dX7_commonDivisor_17 : decode cX7_commonDivisor 17 = .ok (.iload_n 1, 1) := by decide +kernel
theorem dX7_commonDivisor_18 : decode cX7_commonDivisor 18 = .ok (.iload_n 2, 1) := by decide +kernel
theorem dX7_commonDivisor_19 : decode cX7_commonDivisor 19 = .ok (.irem, 1) := by decide +kernel
theorem dX7_commonDivisor_20 : decode cX7_commonDivisor 20 = .ok (.ifCond .ne 5, 3) := by decide +kernel
theorem dX7_commonDivisor_23 : decode cX7_commonDivisor 23 = .ok (.iload_n 2, 1) := by decide +kernel
theorem dX7_commonDivisor_24 : decode cX7_commonDivisor 24 = .ok (.ireturn, 1) := by decide +kernel
theorem dX7_commonDivisor_25 : decode cX7_commonDivisor 25 = .ok (.iinc 2 (-1), 3) := by decide +kernel
theorem dX7_commonDivisor_28 : decode cX7_commonDivisor 28 = .ok (.goto (-22), 3) := by decide +kernel
theorem dX7_commonDivisor_31 : decode cX7_commonDivisor 31 = .ok (.iconst 1, 1) := by decide +kernel
theorem dX7_commonDivisor_32 : decode cX7_commonDivisor 32 = .ok (.ireturn, 1) := by decide +kernel
theorem dX7_image_0 : decode cX7_image 0 = .ok (.aload_n 0, 1) := by decide +kernel
theorem dX7_image_1 : decode cX7_image 1 = .ok (.getfield 35, 3) := by decide +kernel
theorem dX7_image_4 : decode cX7_image 4 = .ok (.aload_n 0, 1) := by decide +kernel
theorem dX7_image_5 : decode cX7_image 5 = .ok (.getfield 28, 3) := by decide +kernel
theorem dX7_image_8 : decode cX7_image 8 = .ok (.invokevirtual 197, 3) := by decide +kernel
theorem dX7_image_11 : decode cX7_image 11 = .ok (.aload_n 0, 1) := by decide +kernel
theorem dX7_image_12 : decode cX7_image 12 = .ok (.iconst 1, 1) := by decide +kernel
theorem dX7_image_13 : decode cX7_image 13 = .ok (.putfield 38, 3) := by decide +kernel
theorem dX7_image_16 : decode cX7_image 16 = .ok (.aload_n 0, 1) := by decide +kernel
theorem dX7_image_17 : decode cX7_image 17 = .ok (.getfield 35, 3) := by decide +kernel
theorem dX7_image_20 : decode cX7_image 20 = .ok (.getfield 99, 3) := by decide +kernel
theorem dX7_image_23 : decode cX7_image 23 = .ok (.ireturn, 1) := by decide +kernel
theorem dX7_back_0 : decode cX7_back 0 = .ok (.aload_n 0, 1) := by decide +kernel
theorem dX7_back_1 : decode cX7_back 1 = .ok (.getfield 38, 3) := by decide +kernel
theorem dX7_back_4 : decode cX7_back 4 = .ok (.ifCond .ne 6, 3) := by decide +kernel
theorem dX7_back_7 : decode cX7_back 7 = .ok (.bipush (-3), 2) := by decide +kernel
theorem dX7_back_9 : decode cX7_back 9 = .ok (.ireturn, 1) := by decide +kernel
theorem dX7_back_10 : decode cX7_back 10 = .ok (.aload_n 0, 1) := by decide +kernel
theorem dX7_back_11 : decode cX7_back 11 = .ok (.getfield 28, 3) := by decide +kernel
theorem dX7_back_14 : decode cX7_back 14 = .ok (.aload_n 0, 1) := by decide +kernel
theorem dX7_back_15 : decode cX7_back 15 = .ok (.getfield 35, 3) := by decide +kernel
theorem dX7_back_18 : decode cX7_back 18 = .ok (.invokevirtual 197, 3) := by decide +kernel
theorem dX7_back_21 : decode cX7_back 21 = .ok (.aload_n 0, 1) := by decide +kernel
theorem dX7_back_22 : decode cX7_back 22 = .ok (.getfield 28, 3) := by decide +kernel
theorem dX7_back_25 : decode cX7_back 25 = .ok (.getfield 99, 3) := by decide +kernel
theorem dX7_back_28 : decode cX7_back 28 = .ok (.ireturn, 1) := by decide +kernel
theorem dX7_sheet_0 : decode cX7_sheet 0 = .ok (.iload_n 1, 1) := by decide +kernel
theorem dX7_sheet_1 : decode cX7_sheet 1 = .ok (.invokestatic 291, 3) := by decide +kernel
theorem dX7_sheet_4 : decode cX7_sheet 4 = .ok (.ifCond .eq 12, 3) := by decide +kernel
theorem dX7_sheet_7 : decode cX7_sheet 7 = .ok (.iload_n 2, 1) := by decide +kernel
theorem dX7_sheet_8 : decode cX7_sheet 8 = .ok (.iconst (-1), 1) := by decide +kernel
theorem dX7_sheet_9 : decode cX7_sheet 9 = .ok (.iconst 2, 1) := by decide +kernel
theorem dX7_sheet_10 : decode cX7_sheet 10 = .ok (.invokestatic 116, 3) := by decide +kernel
theorem dX7_sheet_13 : decode cX7_sheet 13 = .ok (.ifCond .ne 6, 3) := by decide +kernel
theorem dX7_sheet_16 : decode cX7_sheet 16 = .ok (.bipush (-2), 2) := by decide +kernel
theorem dX7_sheet_18 : decode cX7_sheet 18 = .ok (.ireturn, 1) := by decide +kernel
theorem dX7_sheet_19 : decode cX7_sheet 19 = .ok (.iload_n 2, 1) := by decide +kernel
theorem dX7_sheet_20 : decode cX7_sheet 20 = .ok (.iconst (-1), 1) := by decide +kernel
theorem dX7_sheet_21 : decode cX7_sheet 21 = .ok (.if_icmp .ne 15, 3) := by decide +kernel
theorem dX7_sheet_24 : decode cX7_sheet 24 = .ok (.aload_n 0, 1) := by decide +kernel
theorem dX7_sheet_25 : decode cX7_sheet 25 = .ok (.getfield 61, 3) := by decide +kernel
theorem dX7_sheet_28 : decode cX7_sheet 28 = .ok (.iload_n 1, 1) := by decide +kernel
theorem dX7_sheet_29 : decode cX7_sheet 29 = .ok (.iload_n 2, 1) := by decide +kernel
theorem dX7_sheet_30 : decode cX7_sheet 30 = .ok (.iconst 0, 1) := by decide +kernel
theorem dX7_sheet_31 : decode cX7_sheet 31 = .ok (.invokevirtual 294, 3) := by decide +kernel
theorem dX7_sheet_34 : decode cX7_sheet 34 = .ok (.iconst 1, 1) := by decide +kernel
theorem dX7_sheet_35 : decode cX7_sheet 35 = .ok (.ireturn, 1) := by decide +kernel
theorem dX7_sheet_36 : decode cX7_sheet 36 = .ok (.iload_n 3, 1) := by decide +kernel
theorem dX7_sheet_37 : decode cX7_sheet 37 = .ok (.bipush 40, 2) := by decide +kernel
theorem dX7_sheet_39 : decode cX7_sheet 39 = .ok (.if_icmp .le 6, 3) := by decide +kernel
theorem dX7_sheet_42 : decode cX7_sheet 42 = .ok (.bipush (-2), 2) := by decide +kernel
theorem dX7_sheet_44 : decode cX7_sheet 44 = .ok (.ireturn, 1) := by decide +kernel
theorem dX7_sheet_45 : decode cX7_sheet 45 = .ok (.iload_n 3, 1) := by decide +kernel
theorem dX7_sheet_46 : decode cX7_sheet 46 = .ok (.ifCond .ge 6, 3) := by decide +kernel
theorem dX7_sheet_49 : decode cX7_sheet 49 = .ok (.bipush (-14), 2) := by decide +kernel
theorem dX7_sheet_51 : decode cX7_sheet 51 = .ok (.ireturn, 1) := by decide +kernel
theorem dX7_sheet_52 : decode cX7_sheet 52 = .ok (.aload_n 0, 1) := by decide +kernel
theorem dX7_sheet_53 : decode cX7_sheet 53 = .ok (.getfield 61, 3) := by decide +kernel
theorem dX7_sheet_56 : decode cX7_sheet 56 = .ok (.iload_n 1, 1) := by decide +kernel
theorem dX7_sheet_57 : decode cX7_sheet 57 = .ok (.iload_n 2, 1) := by decide +kernel
theorem dX7_sheet_58 : decode cX7_sheet 58 = .ok (.iload_n 3, 1) := by decide +kernel
theorem dX7_sheet_59 : decode cX7_sheet 59 = .ok (.invokevirtual 294, 3) := by decide +kernel
theorem dX7_sheet_62 : decode cX7_sheet 62 = .ok (.iconst 1, 1) := by decide +kernel
theorem dX7_sheet_63 : decode cX7_sheet 63 = .ok (.ireturn, 1) := by decide +kernel
theorem dX7_cell_0 : decode cX7_cell 0 = .ok (.iload_n 1, 1) := by decide +kernel
theorem dX7_cell_1 : decode cX7_cell 1 = .ok (.invokestatic 291, 3) := by decide +kernel
theorem dX7_cell_4 : decode cX7_cell 4 = .ok (.ifCond .ne 6, 3) := by decide +kernel
theorem dX7_cell_7 : decode cX7_cell 7 = .ok (.bipush (-2), 2) := by decide +kernel
theorem dX7_cell_9 : decode cX7_cell 9 = .ok (.ireturn, 1) := by decide +kernel
theorem dX7_cell_10 : decode cX7_cell 10 = .ok (.aload_n 0, 1) := by decide +kernel
theorem dX7_cell_11 : decode cX7_cell 11 = .ok (.getfield 61, 3) := by decide +kernel
theorem dX7_cell_14 : decode cX7_cell 14 = .ok (.iload_n 1, 1) := by decide +kernel
theorem dX7_cell_15 : decode cX7_cell 15 = .ok (.invokevirtual 300, 3) := by decide +kernel
theorem dX7_cell_18 : decode cX7_cell 18 = .ok (.ifCond .eq 6, 3) := by decide +kernel
theorem dX7_cell_21 : decode cX7_cell 21 = .ok (.bipush (-11), 2) := by decide +kernel
theorem dX7_cell_23 : decode cX7_cell 23 = .ok (.ireturn, 1) := by decide +kernel
theorem dX7_cell_24 : decode cX7_cell 24 = .ok (.aload_n 0, 1) := by decide +kernel
theorem dX7_cell_25 : decode cX7_cell 25 = .ok (.getfield 61, 3) := by decide +kernel
theorem dX7_cell_28 : decode cX7_cell 28 = .ok (.iload_n 1, 1) := by decide +kernel
theorem dX7_cell_29 : decode cX7_cell 29 = .ok (.iload_n 2, 1) := by decide +kernel
theorem dX7_cell_30 : decode cX7_cell 30 = .ok (.invokevirtual 320, 3) := by decide +kernel
theorem dX7_cell_33 : decode cX7_cell 33 = .ok (.ifCond .ne 6, 3) := by decide +kernel
theorem dX7_cell_36 : decode cX7_cell 36 = .ok (.bipush (-12), 2) := by decide +kernel
theorem dX7_cell_38 : decode cX7_cell 38 = .ok (.ireturn, 1) := by decide +kernel
theorem dX7_cell_39 : decode cX7_cell 39 = .ok (.aload_n 0, 1) := by decide +kernel
theorem dX7_cell_40 : decode cX7_cell 40 = .ok (.getfield 61, 3) := by decide +kernel
theorem dX7_cell_43 : decode cX7_cell 43 = .ok (.iload_n 1, 1) := by decide +kernel
theorem dX7_cell_44 : decode cX7_cell 44 = .ok (.iload_n 2, 1) := by decide +kernel
theorem dX7_cell_45 : decode cX7_cell 45 = .ok (.iload_n 3, 1) := by decide +kernel
theorem dX7_cell_46 : decode cX7_cell 46 = .ok (.invokevirtual 297, 3) := by decide +kernel
theorem dX7_cell_49 : decode cX7_cell 49 = .ok (.iconst 1, 1) := by decide +kernel
theorem dX7_cell_50 : decode cX7_cell 50 = .ok (.ireturn, 1) := by decide +kernel
theorem dX7_copy_0 : decode cX7_copy 0 = .ok (.iload_n 1, 1) := by decide +kernel
theorem dX7_copy_1 : decode cX7_copy 1 = .ok (.invokestatic 291, 3) := by decide +kernel
theorem dX7_copy_4 : decode cX7_copy 4 = .ok (.ifCond .eq 10, 3) := by decide +kernel
theorem dX7_copy_7 : decode cX7_copy 7 = .ok (.iload_n 3, 1) := by decide +kernel
theorem dX7_copy_8 : decode cX7_copy 8 = .ok (.invokestatic 291, 3) := by decide +kernel
theorem dX7_copy_11 : decode cX7_copy 11 = .ok (.ifCond .ne 6, 3) := by decide +kernel
theorem dX7_copy_14 : decode cX7_copy 14 = .ok (.bipush (-2), 2) := by decide +kernel
theorem dX7_copy_16 : decode cX7_copy 16 = .ok (.ireturn, 1) := by decide +kernel
theorem dX7_copy_17 : decode cX7_copy 17 = .ok (.aload_n 0, 1) := by decide +kernel
theorem dX7_copy_18 : decode cX7_copy 18 = .ok (.getfield 61, 3) := by decide +kernel
theorem dX7_copy_21 : decode cX7_copy 21 = .ok (.iload_n 1, 1) := by decide +kernel
theorem dX7_copy_22 : decode cX7_copy 22 = .ok (.invokevirtual 300, 3) := by decide +kernel
theorem dX7_copy_25 : decode cX7_copy 25 = .ok (.ifCond .ne 14, 3) := by decide +kernel
theorem dX7_copy_28 : decode cX7_copy 28 = .ok (.aload_n 0, 1) := by decide +kernel
theorem dX7_copy_29 : decode cX7_copy 29 = .ok (.getfield 61, 3) := by decide +kernel
theorem dX7_copy_32 : decode cX7_copy 32 = .ok (.iload_n 3, 1) := by decide +kernel
theorem dX7_copy_33 : decode cX7_copy 33 = .ok (.invokevirtual 300, 3) := by decide +kernel
theorem dX7_copy_36 : decode cX7_copy 36 = .ok (.ifCond .eq 6, 3) := by decide +kernel
theorem dX7_copy_39 : decode cX7_copy 39 = .ok (.bipush (-11), 2) := by decide +kernel
theorem dX7_copy_41 : decode cX7_copy 41 = .ok (.ireturn, 1) := by decide +kernel
theorem dX7_copy_42 : decode cX7_copy 42 = .ok (.aload_n 0, 1) := by decide +kernel
theorem dX7_copy_43 : decode cX7_copy 43 = .ok (.getfield 61, 3) := by decide +kernel
theorem dX7_copy_46 : decode cX7_copy 46 = .ok (.getfield 323, 3) := by decide +kernel
theorem dX7_copy_49 : decode cX7_copy 49 = .ok (.iload_n 1, 1) := by decide +kernel
theorem dX7_copy_50 : decode cX7_copy 50 = .ok (.iaload, 1) := by decide +kernel
theorem dX7_copy_51 : decode cX7_copy 51 = .ok (.aload_n 0, 1) := by decide +kernel
theorem dX7_copy_52 : decode cX7_copy 52 = .ok (.getfield 61, 3) := by decide +kernel
theorem dX7_copy_55 : decode cX7_copy 55 = .ok (.getfield 323, 3) := by decide +kernel
theorem dX7_copy_58 : decode cX7_copy 58 = .ok (.iload_n 3, 1) := by decide +kernel
theorem dX7_copy_59 : decode cX7_copy 59 = .ok (.iaload, 1) := by decide +kernel
theorem dX7_copy_60 : decode cX7_copy 60 = .ok (.if_icmp .eq 6, 3) := by decide +kernel
theorem dX7_copy_63 : decode cX7_copy 63 = .ok (.bipush (-13), 2) := by decide +kernel
theorem dX7_copy_65 : decode cX7_copy 65 = .ok (.ireturn, 1) := by decide +kernel
theorem dX7_copy_66 : decode cX7_copy 66 = .ok (.aload_n 0, 1) := by decide +kernel
theorem dX7_copy_67 : decode cX7_copy 67 = .ok (.getfield 61, 3) := by decide +kernel
theorem dX7_copy_70 : decode cX7_copy 70 = .ok (.iload_n 1, 1) := by decide +kernel
theorem dX7_copy_71 : decode cX7_copy 71 = .ok (.iload_n 2, 1) := by decide +kernel
theorem dX7_copy_72 : decode cX7_copy 72 = .ok (.iload 5, 2) := by decide +kernel
theorem dX7_copy_74 : decode cX7_copy 74 = .ok (.invokevirtual 326, 3) := by decide +kernel
theorem dX7_copy_77 : decode cX7_copy 77 = .ok (.ifCond .eq 18, 3) := by decide +kernel
theorem dX7_copy_80 : decode cX7_copy 80 = .ok (.aload_n 0, 1) := by decide +kernel
theorem dX7_copy_81 : decode cX7_copy 81 = .ok (.getfield 61, 3) := by decide +kernel
theorem dX7_copy_84 : decode cX7_copy 84 = .ok (.iload_n 3, 1) := by decide +kernel
theorem dX7_copy_85 : decode cX7_copy 85 = .ok (.iload 4, 2) := by decide +kernel
theorem dX7_copy_87 : decode cX7_copy 87 = .ok (.iload 5, 2) := by decide +kernel
theorem dX7_copy_89 : decode cX7_copy 89 = .ok (.invokevirtual 326, 3) := by decide +kernel
theorem dX7_copy_92 : decode cX7_copy 92 = .ok (.ifCond .ne 6, 3) := by decide +kernel
theorem dX7_copy_95 : decode cX7_copy 95 = .ok (.bipush (-12), 2) := by decide +kernel
theorem dX7_copy_97 : decode cX7_copy 97 = .ok (.ireturn, 1) := by decide +kernel
theorem dX7_copy_98 : decode cX7_copy 98 = .ok (.aload_n 0, 1) := by decide +kernel
theorem dX7_copy_99 : decode cX7_copy 99 = .ok (.getfield 61, 3) := by decide +kernel
theorem dX7_copy_102 : decode cX7_copy 102 = .ok (.iload_n 1, 1) := by decide +kernel
theorem dX7_copy_103 : decode cX7_copy 103 = .ok (.iload_n 2, 1) := by decide +kernel
theorem dX7_copy_104 : decode cX7_copy 104 = .ok (.iload_n 3, 1) := by decide +kernel
theorem dX7_copy_105 : decode cX7_copy 105 = .ok (.iload 4, 2) := by decide +kernel
theorem dX7_copy_107 : decode cX7_copy 107 = .ok (.iload 5, 2) := by decide +kernel
theorem dX7_copy_109 : decode cX7_copy 109 = .ok (.invokevirtual 329, 3) := by decide +kernel
theorem dX7_copy_112 : decode cX7_copy 112 = .ok (.iload 5, 2) := by decide +kernel
theorem dX7_copy_114 : decode cX7_copy 114 = .ok (.ireturn, 1) := by decide +kernel
theorem dX7_jokesBy_0 : decode cX7_jokesBy 0 = .ok (.iload_n 1, 1) := by decide +kernel
theorem dX7_jokesBy_1 : decode cX7_jokesBy 1 = .ok (.invokestatic 291, 3) := by decide +kernel
theorem dX7_jokesBy_4 : decode cX7_jokesBy 4 = .ok (.ifCond .eq 22, 3) := by decide +kernel
theorem dX7_jokesBy_7 : decode cX7_jokesBy 7 = .ok (.iload_n 2, 1) := by decide +kernel
theorem dX7_jokesBy_8 : decode cX7_jokesBy 8 = .ok (.iconst 0, 1) := by decide +kernel
theorem dX7_jokesBy_9 : decode cX7_jokesBy 9 = .ok (.iconst 2, 1) := by decide +kernel
theorem dX7_jokesBy_10 : decode cX7_jokesBy 10 = .ok (.invokestatic 116, 3) := by decide +kernel
theorem dX7_jokesBy_13 : decode cX7_jokesBy 13 = .ok (.ifCond .eq 13, 3) := by decide +kernel
theorem dX7_jokesBy_16 : decode cX7_jokesBy 16 = .ok (.iload 4, 2) := by decide +kernel
theorem dX7_jokesBy_18 : decode cX7_jokesBy 18 = .ok (.iconst 0, 1) := by decide +kernel
theorem dX7_jokesBy_19 : decode cX7_jokesBy 19 = .ok (.iconst 5, 1) := by decide +kernel
theorem dX7_jokesBy_20 : decode cX7_jokesBy 20 = .ok (.invokestatic 116, 3) := by decide +kernel
theorem dX7_jokesBy_23 : decode cX7_jokesBy 23 = .ok (.ifCond .ne 6, 3) := by decide +kernel
theorem dX7_jokesBy_26 : decode cX7_jokesBy 26 = .ok (.bipush (-2), 2) := by decide +kernel
theorem dX7_jokesBy_28 : decode cX7_jokesBy 28 = .ok (.ireturn, 1) := by decide +kernel
theorem dX7_jokesBy_29 : decode cX7_jokesBy 29 = .ok (.aload_n 0, 1) := by decide +kernel
theorem dX7_jokesBy_30 : decode cX7_jokesBy 30 = .ok (.getfield 61, 3) := by decide +kernel
theorem dX7_jokesBy_33 : decode cX7_jokesBy 33 = .ok (.iload_n 1, 1) := by decide +kernel
theorem dX7_jokesBy_34 : decode cX7_jokesBy 34 = .ok (.invokevirtual 300, 3) := by decide +kernel
theorem dX7_jokesBy_37 : decode cX7_jokesBy 37 = .ok (.ifCond .eq 6, 3) := by decide +kernel
theorem dX7_jokesBy_40 : decode cX7_jokesBy 40 = .ok (.bipush (-11), 2) := by decide +kernel
theorem dX7_jokesBy_42 : decode cX7_jokesBy 42 = .ok (.ireturn, 1) := by decide +kernel
theorem dX7_jokesBy_43 : decode cX7_jokesBy 43 = .ok (.aload_n 0, 1) := by decide +kernel
theorem dX7_jokesBy_44 : decode cX7_jokesBy 44 = .ok (.getfield 61, 3) := by decide +kernel
theorem dX7_jokesBy_47 : decode cX7_jokesBy 47 = .ok (.getfield 323, 3) := by decide +kernel
theorem dX7_jokesBy_50 : decode cX7_jokesBy 50 = .ok (.iload_n 1, 1) := by decide +kernel
theorem dX7_jokesBy_51 : decode cX7_jokesBy 51 = .ok (.iaload, 1) := by decide +kernel
theorem dX7_jokesBy_52 : decode cX7_jokesBy 52 = .ok (.iload_n 2, 1) := by decide +kernel
theorem dX7_jokesBy_53 : decode cX7_jokesBy 53 = .ok (.if_icmp .eq 6, 3) := by decide +kernel
theorem dX7_jokesBy_56 : decode cX7_jokesBy 56 = .ok (.bipush (-13), 2) := by decide +kernel
theorem dX7_jokesBy_58 : decode cX7_jokesBy 58 = .ok (.ireturn, 1) := by decide +kernel
theorem dX7_jokesBy_59 : decode cX7_jokesBy 59 = .ok (.iconst 0, 1) := by decide +kernel
theorem dX7_jokesBy_60 : decode cX7_jokesBy 60 = .ok (.istore 5, 2) := by decide +kernel
theorem dX7_jokesBy_62 : decode cX7_jokesBy 62 = .ok (.iload_n 3, 1) := by decide +kernel
theorem dX7_jokesBy_63 : decode cX7_jokesBy 63 = .ok (.istore 6, 2) := by decide +kernel
theorem dX7_jokesBy_65 : decode cX7_jokesBy 65 = .ok (.iconst 0, 1) := by decide +kernel
theorem dX7_jokesBy_66 : decode cX7_jokesBy 66 = .ok (.istore 7, 2) := by decide +kernel
theorem dX7_jokesBy_68 : decode cX7_jokesBy 68 = .ok (.iload 7, 2) := by decide +kernel
theorem dX7_jokesBy_70 : decode cX7_jokesBy 70 = .ok (.iload 4, 2) := by decide +kernel
theorem dX7_jokesBy_72 : decode cX7_jokesBy 72 = .ok (.if_icmp .ge 64, 3) := by decide +kernel
theorem dX7_jokesBy_75 : decode cX7_jokesBy 75 = .ok (.aload_n 0, 1) := by decide +kernel
theorem dX7_jokesBy_76 : decode cX7_jokesBy 76 = .ok (.getfield 61, 3) := by decide +kernel
theorem dX7_jokesBy_79 : decode cX7_jokesBy 79 = .ok (.iload_n 1, 1) := by decide +kernel
theorem dX7_jokesBy_80 : decode cX7_jokesBy 80 = .ok (.iload 6, 2) := by decide +kernel
theorem dX7_jokesBy_82 : decode cX7_jokesBy 82 = .ok (.iconst 2, 1) := by decide +kernel
theorem dX7_jokesBy_83 : decode cX7_jokesBy 83 = .ok (.invokevirtual 326, 3) := by decide +kernel
theorem dX7_jokesBy_86 : decode cX7_jokesBy 86 = .ok (.ifCond .ne 6, 3) := by decide +kernel
theorem dX7_jokesBy_89 : decode cX7_jokesBy 89 = .ok (.bipush (-12), 2) := by decide +kernel
theorem dX7_jokesBy_91 : decode cX7_jokesBy 91 = .ok (.ireturn, 1) := by decide +kernel
theorem dX7_jokesBy_92 : decode cX7_jokesBy 92 = .ok (.aload_n 0, 1) := by decide +kernel
theorem dX7_jokesBy_93 : decode cX7_jokesBy 93 = .ok (.getfield 28, 3) := by decide +kernel
theorem dX7_jokesBy_96 : decode cX7_jokesBy 96 = .ok (.aload_n 0, 1) := by decide +kernel
theorem dX7_jokesBy_97 : decode cX7_jokesBy 97 = .ok (.getfield 61, 3) := by decide +kernel
theorem dX7_jokesBy_100 : decode cX7_jokesBy 100 = .ok (.iload_n 1, 1) := by decide +kernel
theorem dX7_jokesBy_101 : decode cX7_jokesBy 101 = .ok (.iload 6, 2) := by decide +kernel
theorem dX7_jokesBy_103 : decode cX7_jokesBy 103 = .ok (.invokevirtual 282, 3) := by decide +kernel
theorem dX7_jokesBy_106 : decode cX7_jokesBy 106 = .ok (.aload_n 0, 1) := by decide +kernel
theorem dX7_jokesBy_107 : decode cX7_jokesBy 107 = .ok (.getfield 61, 3) := by decide +kernel
theorem dX7_jokesBy_110 : decode cX7_jokesBy 110 = .ok (.iload_n 1, 1) := by decide +kernel
theorem dX7_jokesBy_111 : decode cX7_jokesBy 111 = .ok (.iload 6, 2) := by decide +kernel
theorem dX7_jokesBy_113 : decode cX7_jokesBy 113 = .ok (.iconst 1, 1) := by decide +kernel
theorem dX7_jokesBy_114 : decode cX7_jokesBy 114 = .ok (.iadd, 1) := by decide +kernel
theorem dX7_jokesBy_115 : decode cX7_jokesBy 115 = .ok (.invokevirtual 282, 3) := by decide +kernel
theorem dX7_jokesBy_118 : decode cX7_jokesBy 118 = .ok (.invokevirtual 134, 3) := by decide +kernel
theorem dX7_jokesBy_121 : decode cX7_jokesBy 121 = .ok (.ifCond .lt 6, 3) := by decide +kernel
theorem dX7_jokesBy_124 : decode cX7_jokesBy 124 = .ok (.iinc 5 1, 3) := by decide +kernel
theorem dX7_jokesBy_127 : decode cX7_jokesBy 127 = .ok (.iinc 6 2, 3) := by decide +kernel
theorem dX7_jokesBy_130 : decode cX7_jokesBy 130 = .ok (.iinc 7 1, 3) := by decide +kernel
theorem dX7_jokesBy_133 : decode cX7_jokesBy 133 = .ok (.goto (-65), 3) := by decide +kernel
theorem dX7_jokesBy_136 : decode cX7_jokesBy 136 = .ok (.iload 5, 2) := by decide +kernel
theorem dX7_jokesBy_138 : decode cX7_jokesBy 138 = .ok (.ireturn, 1) := by decide +kernel
theorem dX7_taken_0 : decode cX7_taken 0 = .ok (.iload_n 2, 1) := by decide +kernel
theorem dX7_taken_1 : decode cX7_taken 1 = .ok (.iconst 0, 1) := by decide +kernel
theorem dX7_taken_2 : decode cX7_taken 2 = .ok (.bipush 6, 2) := by decide +kernel
theorem dX7_taken_4 : decode cX7_taken 4 = .ok (.invokestatic 116, 3) := by decide +kernel
theorem dX7_taken_7 : decode cX7_taken 7 = .ok (.ifCond .ne 6, 3) := by decide +kernel
theorem dX7_taken_10 : decode cX7_taken 10 = .ok (.bipush (-2), 2) := by decide +kernel
theorem dX7_taken_12 : decode cX7_taken 12 = .ok (.ireturn, 1) := by decide +kernel
theorem dX7_taken_13 : decode cX7_taken 13 = .ok (.iload_n 1, 1) := by decide +kernel
theorem dX7_taken_14 : decode cX7_taken 14 = .ok (.iconst 0, 1) := by decide +kernel
theorem dX7_taken_15 : decode cX7_taken 15 = .ok (.bipush 10, 2) := by decide +kernel
theorem dX7_taken_17 : decode cX7_taken 17 = .ok (.invokestatic 116, 3) := by decide +kernel
theorem dX7_taken_20 : decode cX7_taken 20 = .ok (.ifCond .ne 6, 3) := by decide +kernel
theorem dX7_taken_23 : decode cX7_taken 23 = .ok (.bipush (-12), 2) := by decide +kernel
theorem dX7_taken_25 : decode cX7_taken 25 = .ok (.ireturn, 1) := by decide +kernel
theorem dX7_taken_26 : decode cX7_taken 26 = .ok (.iload_n 1, 1) := by decide +kernel
theorem dX7_taken_27 : decode cX7_taken 27 = .ok (.iconst 5, 1) := by decide +kernel
theorem dX7_taken_28 : decode cX7_taken 28 = .ok (.if_icmp .ge 12, 3) := by decide +kernel
theorem dX7_taken_31 : decode cX7_taken 31 = .ok (.aload_n 0, 1) := by decide +kernel
theorem dX7_taken_32 : decode cX7_taken 32 = .ok (.iload_n 1, 1) := by decide +kernel
theorem dX7_taken_33 : decode cX7_taken 33 = .ok (.iload_n 2, 1) := by decide +kernel
theorem dX7_taken_34 : decode cX7_taken 34 = .ok (.invokevirtual 333, 3) := by decide +kernel
theorem dX7_taken_37 : decode cX7_taken 37 = .ok (.goto 11, 3) := by decide +kernel
theorem dX7_taken_40 : decode cX7_taken 40 = .ok (.aload_n 0, 1) := by decide +kernel
theorem dX7_taken_41 : decode cX7_taken 41 = .ok (.iload_n 1, 1) := by decide +kernel
theorem dX7_taken_42 : decode cX7_taken 42 = .ok (.iconst 5, 1) := by decide +kernel
theorem dX7_taken_43 : decode cX7_taken 43 = .ok (.isub, 1) := by decide +kernel
theorem dX7_taken_44 : decode cX7_taken 44 = .ok (.iload_n 2, 1) := by decide +kernel
theorem dX7_taken_45 : decode cX7_taken 45 = .ok (.invokevirtual 336, 3) := by decide +kernel
theorem dX7_taken_48 : decode cX7_taken 48 = .ok (.ireturn, 1) := by decide +kernel
theorem dX7_takenJoke_0 : decode cX7_takenJoke 0 = .ok (.aload_n 0, 1) := by decide +kernel
theorem dX7_takenJoke_1 : decode cX7_takenJoke 1 = .ok (.getfield 28, 3) := by decide +kernel
theorem dX7_takenJoke_4 : decode cX7_takenJoke 4 = .ok (.iload_n 1, 1) := by decide +kernel
theorem dX7_takenJoke_5 : decode cX7_takenJoke 5 = .ok (.invokevirtual 138, 3) := by decide +kernel
theorem dX7_takenJoke_8 : decode cX7_takenJoke 8 = .ok (.ifCond .ne 6, 3) := by decide +kernel
theorem dX7_takenJoke_11 : decode cX7_takenJoke 11 = .ok (.bipush (-11), 2) := by decide +kernel
theorem dX7_takenJoke_13 : decode cX7_takenJoke 13 = .ok (.ireturn, 1) := by decide +kernel
theorem dX7_takenJoke_14 : decode cX7_takenJoke 14 = .ok (.aload_n 0, 1) := by decide +kernel
theorem dX7_takenJoke_15 : decode cX7_takenJoke 15 = .ok (.getfield 28, 3) := by decide +kernel
theorem dX7_takenJoke_18 : decode cX7_takenJoke 18 = .ok (.getfield 141, 3) := by decide +kernel
theorem dX7_takenJoke_21 : decode cX7_takenJoke 21 = .ok (.iload_n 1, 1) := by decide +kernel
theorem dX7_takenJoke_22 : decode cX7_takenJoke 22 = .ok (.iaload, 1) := by decide +kernel
theorem dX7_takenJoke_23 : decode cX7_takenJoke 23 = .ok (.iload_n 2, 1) := by decide +kernel
theorem dX7_takenJoke_24 : decode cX7_takenJoke 24 = .ok (.invokestatic 339, 3) := by decide +kernel
theorem dX7_takenJoke_27 : decode cX7_takenJoke 27 = .ok (.ifCond .eq 7, 3) := by decide +kernel
theorem dX7_takenJoke_30 : decode cX7_takenJoke 30 = .ok (.iload_n 1, 1) := by decide +kernel
theorem dX7_takenJoke_31 : decode cX7_takenJoke 31 = .ok (.goto 5, 3) := by decide +kernel
theorem dX7_takenJoke_34 : decode cX7_takenJoke 34 = .ok (.bipush (-13), 2) := by decide +kernel
theorem dX7_takenJoke_36 : decode cX7_takenJoke 36 = .ok (.ireturn, 1) := by decide +kernel
theorem dX7_takenHearer_0 : decode cX7_takenHearer 0 = .ok (.aload_n 0, 1) := by decide +kernel
theorem dX7_takenHearer_1 : decode cX7_takenHearer 1 = .ok (.getfield 28, 3) := by decide +kernel
theorem dX7_takenHearer_4 : decode cX7_takenHearer 4 = .ok (.iload_n 1, 1) := by decide +kernel
theorem dX7_takenHearer_5 : decode cX7_takenHearer 5 = .ok (.invokevirtual 127, 3) := by decide +kernel
theorem dX7_takenHearer_8 : decode cX7_takenHearer 8 = .ok (.ifCond .ne 6, 3) := by decide +kernel
theorem dX7_takenHearer_11 : decode cX7_takenHearer 11 = .ok (.bipush (-11), 2) := by decide +kernel
theorem dX7_takenHearer_13 : decode cX7_takenHearer 13 = .ok (.ireturn, 1) := by decide +kernel
theorem dX7_takenHearer_14 : decode cX7_takenHearer 14 = .ok (.iload_n 2, 1) := by decide +kernel
theorem dX7_takenHearer_15 : decode cX7_takenHearer 15 = .ok (.bipush 6, 2) := by decide +kernel
theorem dX7_takenHearer_17 : decode cX7_takenHearer 17 = .ok (.if_icmp .ne 15, 3) := by decide +kernel
theorem dX7_takenHearer_20 : decode cX7_takenHearer 20 = .ok (.aload_n 0, 1) := by decide +kernel
theorem dX7_takenHearer_21 : decode cX7_takenHearer 21 = .ok (.getfield 28, 3) := by decide +kernel
theorem dX7_takenHearer_24 : decode cX7_takenHearer 24 = .ok (.getfield 187, 3) := by decide +kernel
theorem dX7_takenHearer_27 : decode cX7_takenHearer 27 = .ok (.iload_n 1, 1) := by decide +kernel
theorem dX7_takenHearer_28 : decode cX7_takenHearer 28 = .ok (.iaload, 1) := by decide +kernel
theorem dX7_takenHearer_29 : decode cX7_takenHearer 29 = .ok (.goto 5, 3) := by decide +kernel
theorem dX7_takenHearer_32 : decode cX7_takenHearer 32 = .ok (.bipush (-13), 2) := by decide +kernel
theorem dX7_takenHearer_34 : decode cX7_takenHearer 34 = .ok (.ireturn, 1) := by decide +kernel
theorem dX7_isSheet_0 : decode cX7_isSheet 0 = .ok (.iload_n 0, 1) := by decide +kernel
theorem dX7_isSheet_1 : decode cX7_isSheet 1 = .ok (.iconst 0, 1) := by decide +kernel
theorem dX7_isSheet_2 : decode cX7_isSheet 2 = .ok (.iconst 3, 1) := by decide +kernel
theorem dX7_isSheet_3 : decode cX7_isSheet 3 = .ok (.invokestatic 116, 3) := by decide +kernel
theorem dX7_isSheet_6 : decode cX7_isSheet 6 = .ok (.ireturn, 1) := by decide +kernel
theorem dX7_within_0 : decode cX7_within 0 = .ok (.iload_n 1, 1) := by decide +kernel
theorem dX7_within_1 : decode cX7_within 1 = .ok (.iload_n 0, 1) := by decide +kernel
theorem dX7_within_2 : decode cX7_within 2 = .ok (.if_icmp .gt 12, 3) := by decide +kernel
theorem dX7_within_5 : decode cX7_within 5 = .ok (.iload_n 0, 1) := by decide +kernel
theorem dX7_within_6 : decode cX7_within 6 = .ok (.iload_n 2, 1) := by decide +kernel
theorem dX7_within_7 : decode cX7_within 7 = .ok (.if_icmp .gt 7, 3) := by decide +kernel
theorem dX7_within_10 : decode cX7_within 10 = .ok (.iconst 1, 1) := by decide +kernel
theorem dX7_within_11 : decode cX7_within 11 = .ok (.goto 4, 3) := by decide +kernel
theorem dX7_within_14 : decode cX7_within 14 = .ok (.iconst 0, 1) := by decide +kernel
theorem dX7_within_15 : decode cX7_within 15 = .ok (.ireturn, 1) := by decide +kernel
theorem dX7_isByte_0 : decode cX7_isByte 0 = .ok (.iload_n 0, 1) := by decide +kernel
theorem dX7_isByte_1 : decode cX7_isByte 1 = .ok (.iconst 0, 1) := by decide +kernel
theorem dX7_isByte_2 : decode cX7_isByte 2 = .ok (.sipush 255, 3) := by decide +kernel
theorem dX7_isByte_5 : decode cX7_isByte 5 = .ok (.invokestatic 116, 3) := by decide +kernel
theorem dX7_isByte_8 : decode cX7_isByte 8 = .ok (.ireturn, 1) := by decide +kernel
theorem dX7_hasBit_0 : decode cX7_hasBit 0 = .ok (.iload_n 0, 1) := by decide +kernel
theorem dX7_hasBit_1 : decode cX7_hasBit 1 = .ok (.iload_n 1, 1) := by decide +kernel
theorem dX7_hasBit_2 : decode cX7_hasBit 2 = .ok (.ishr, 1) := by decide +kernel
theorem dX7_hasBit_3 : decode cX7_hasBit 3 = .ok (.iconst 1, 1) := by decide +kernel
theorem dX7_hasBit_4 : decode cX7_hasBit 4 = .ok (.iand, 1) := by decide +kernel
theorem dX7_hasBit_5 : decode cX7_hasBit 5 = .ok (.iconst 1, 1) := by decide +kernel
theorem dX7_hasBit_6 : decode cX7_hasBit 6 = .ok (.if_icmp .ne 7, 3) := by decide +kernel
theorem dX7_hasBit_9 : decode cX7_hasBit 9 = .ok (.iconst 1, 1) := by decide +kernel
theorem dX7_hasBit_10 : decode cX7_hasBit 10 = .ok (.goto 4, 3) := by decide +kernel
theorem dX7_hasBit_13 : decode cX7_hasBit 13 = .ok (.iconst 0, 1) := by decide +kernel
theorem dX7_hasBit_14 : decode cX7_hasBit 14 = .ok (.ireturn, 1) := by decide +kernel
theorem dX7_bounded_0 : decode cX7_bounded 0 = .ok (.iconst 0, 1) := by decide +kernel
theorem dX7_bounded_1 : decode cX7_bounded 1 = .ok (.iload_n 0, 1) := by decide +kernel
theorem dX7_bounded_2 : decode cX7_bounded 2 = .ok (.iload_n 1, 1) := by decide +kernel
theorem dX7_bounded_3 : decode cX7_bounded 3 = .ok (.invokestatic 342, 3) := by decide +kernel
theorem dX7_bounded_6 : decode cX7_bounded 6 = .ok (.invokestatic 313, 3) := by decide +kernel
theorem dX7_bounded_9 : decode cX7_bounded 9 = .ok (.ireturn, 1) := by decide +kernel
theorem dX8_init_0 : decode cX8_init 0 = .ok (.aload_n 0, 1) := by decide +kernel
theorem dX8_init_1 : decode cX8_init 1 = .ok (.invokespecial 1, 3) := by decide +kernel
theorem dX8_init_4 : decode cX8_init 4 = .ok (.aload_n 0, 1) := by decide +kernel
theorem dX8_init_5 : decode cX8_init 5 = .ok (.iconst 5, 1) := by decide +kernel
theorem dX8_init_6 : decode cX8_init 6 = .ok (.newarray .int, 2) := by decide +kernel
theorem dX8_init_8 : decode cX8_init 8 = .ok (.putfield 7, 3) := by decide +kernel
theorem dX8_init_11 : decode cX8_init 11 = .ok (.aload_n 0, 1) := by decide +kernel
theorem dX8_init_12 : decode cX8_init 12 = .ok (.iconst 5, 1) := by decide +kernel
theorem dX8_init_13 : decode cX8_init 13 = .ok (.newarray .int, 2) := by decide +kernel
theorem dX8_init_15 : decode cX8_init 15 = .ok (.putfield 13, 3) := by decide +kernel
theorem dX8_init_18 : decode cX8_init 18 = .ok (.aload_n 0, 1) := by decide +kernel
theorem dX8_init_19 : decode cX8_init 19 = .ok (.iconst 5, 1) := by decide +kernel
theorem dX8_init_20 : decode cX8_init 20 = .ok (.newarray .int, 2) := by decide +kernel
theorem dX8_init_22 : decode cX8_init 22 = .ok (.putfield 16, 3) := by decide +kernel
theorem dX8_init_25 : decode cX8_init 25 = .ok (.aload_n 0, 1) := by decide +kernel
theorem dX8_init_26 : decode cX8_init 26 = .ok (.bipush 30, 2) := by decide +kernel
theorem dX8_init_28 : decode cX8_init 28 = .ok (.newarray .int, 2) := by decide +kernel
theorem dX8_init_30 : decode cX8_init 30 = .ok (.putfield 19, 3) := by decide +kernel
theorem dX8_init_33 : decode cX8_init 33 = .ok (.aload_n 0, 1) := by decide +kernel
theorem dX8_init_34 : decode cX8_init 34 = .ok (.bipush 16, 2) := by decide +kernel
theorem dX8_init_36 : decode cX8_init 36 = .ok (.newarray .int, 2) := by decide +kernel
theorem dX8_init_38 : decode cX8_init 38 = .ok (.dup, 1) := by decide +kernel
theorem dX8_init_39 : decode cX8_init 39 = .ok (.iconst 0, 1) := by decide +kernel
theorem dX8_init_40 : decode cX8_init 40 = .ok (.bipush 100, 2) := by decide +kernel
theorem dX8_init_42 : decode cX8_init 42 = .ok (.iastore, 1) := by decide +kernel
theorem dX8_init_43 : decode cX8_init 43 = .ok (.dup, 1) := by decide +kernel
theorem dX8_init_44 : decode cX8_init 44 = .ok (.iconst 1, 1) := by decide +kernel
theorem dX8_init_45 : decode cX8_init 45 = .ok (.bipush 100, 2) := by decide +kernel
theorem dX8_init_47 : decode cX8_init 47 = .ok (.iastore, 1) := by decide +kernel
theorem dX8_init_48 : decode cX8_init 48 = .ok (.dup, 1) := by decide +kernel
theorem dX8_init_49 : decode cX8_init 49 = .ok (.iconst 2, 1) := by decide +kernel
theorem dX8_init_50 : decode cX8_init 50 = .ok (.bipush 100, 2) := by decide +kernel
theorem dX8_init_52 : decode cX8_init 52 = .ok (.iastore, 1) := by decide +kernel
theorem dX8_init_53 : decode cX8_init 53 = .ok (.dup, 1) := by decide +kernel
theorem dX8_init_54 : decode cX8_init 54 = .ok (.iconst 3, 1) := by decide +kernel
theorem dX8_init_55 : decode cX8_init 55 = .ok (.bipush 100, 2) := by decide +kernel
theorem dX8_init_57 : decode cX8_init 57 = .ok (.iastore, 1) := by decide +kernel
theorem dX8_init_58 : decode cX8_init 58 = .ok (.dup, 1) := by decide +kernel
theorem dX8_init_59 : decode cX8_init 59 = .ok (.iconst 4, 1) := by decide +kernel
theorem dX8_init_60 : decode cX8_init 60 = .ok (.bipush 100, 2) := by decide +kernel
theorem dX8_init_62 : decode cX8_init 62 = .ok (.iastore, 1) := by decide +kernel
theorem dX8_init_63 : decode cX8_init 63 = .ok (.dup, 1) := by decide +kernel
theorem dX8_init_64 : decode cX8_init 64 = .ok (.iconst 5, 1) := by decide +kernel
theorem dX8_init_65 : decode cX8_init 65 = .ok (.bipush 100, 2) := by decide +kernel
theorem dX8_init_67 : decode cX8_init 67 = .ok (.iastore, 1) := by decide +kernel
theorem dX8_init_68 : decode cX8_init 68 = .ok (.dup, 1) := by decide +kernel
theorem dX8_init_69 : decode cX8_init 69 = .ok (.bipush 6, 2) := by decide +kernel
theorem dX8_init_71 : decode cX8_init 71 = .ok (.bipush 100, 2) := by decide +kernel
theorem dX8_init_73 : decode cX8_init 73 = .ok (.iastore, 1) := by decide +kernel
theorem dX8_init_74 : decode cX8_init 74 = .ok (.dup, 1) := by decide +kernel
theorem dX8_init_75 : decode cX8_init 75 = .ok (.bipush 7, 2) := by decide +kernel
theorem dX8_init_77 : decode cX8_init 77 = .ok (.bipush 100, 2) := by decide +kernel
theorem dX8_init_79 : decode cX8_init 79 = .ok (.iastore, 1) := by decide +kernel
theorem dX8_init_80 : decode cX8_init 80 = .ok (.dup, 1) := by decide +kernel
theorem dX8_init_81 : decode cX8_init 81 = .ok (.bipush 8, 2) := by decide +kernel
theorem dX8_init_83 : decode cX8_init 83 = .ok (.bipush 100, 2) := by decide +kernel
theorem dX8_init_85 : decode cX8_init 85 = .ok (.iastore, 1) := by decide +kernel
theorem dX8_init_86 : decode cX8_init 86 = .ok (.dup, 1) := by decide +kernel
theorem dX8_init_87 : decode cX8_init 87 = .ok (.bipush 9, 2) := by decide +kernel
theorem dX8_init_89 : decode cX8_init 89 = .ok (.bipush 100, 2) := by decide +kernel
theorem dX8_init_91 : decode cX8_init 91 = .ok (.iastore, 1) := by decide +kernel
theorem dX8_init_92 : decode cX8_init 92 = .ok (.dup, 1) := by decide +kernel
theorem dX8_init_93 : decode cX8_init 93 = .ok (.bipush 10, 2) := by decide +kernel
theorem dX8_init_95 : decode cX8_init 95 = .ok (.bipush 100, 2) := by decide +kernel
theorem dX8_init_97 : decode cX8_init 97 = .ok (.iastore, 1) := by decide +kernel
theorem dX8_init_98 : decode cX8_init 98 = .ok (.dup, 1) := by decide +kernel
theorem dX8_init_99 : decode cX8_init 99 = .ok (.bipush 11, 2) := by decide +kernel
theorem dX8_init_101 : decode cX8_init 101 = .ok (.bipush 100, 2) := by decide +kernel
theorem dX8_init_103 : decode cX8_init 103 = .ok (.iastore, 1) := by decide +kernel
theorem dX8_init_104 : decode cX8_init 104 = .ok (.dup, 1) := by decide +kernel
theorem dX8_init_105 : decode cX8_init 105 = .ok (.bipush 12, 2) := by decide +kernel
theorem dX8_init_107 : decode cX8_init 107 = .ok (.bipush 100, 2) := by decide +kernel
theorem dX8_init_109 : decode cX8_init 109 = .ok (.iastore, 1) := by decide +kernel
theorem dX8_init_110 : decode cX8_init 110 = .ok (.dup, 1) := by decide +kernel
theorem dX8_init_111 : decode cX8_init 111 = .ok (.bipush 13, 2) := by decide +kernel
theorem dX8_init_113 : decode cX8_init 113 = .ok (.bipush 100, 2) := by decide +kernel
theorem dX8_init_115 : decode cX8_init 115 = .ok (.iastore, 1) := by decide +kernel
theorem dX8_init_116 : decode cX8_init 116 = .ok (.dup, 1) := by decide +kernel
theorem dX8_init_117 : decode cX8_init 117 = .ok (.bipush 14, 2) := by decide +kernel
theorem dX8_init_119 : decode cX8_init 119 = .ok (.bipush 100, 2) := by decide +kernel
theorem dX8_init_121 : decode cX8_init 121 = .ok (.iastore, 1) := by decide +kernel
theorem dX8_init_122 : decode cX8_init 122 = .ok (.dup, 1) := by decide +kernel
theorem dX8_init_123 : decode cX8_init 123 = .ok (.bipush 15, 2) := by decide +kernel
theorem dX8_init_125 : decode cX8_init 125 = .ok (.bipush 100, 2) := by decide +kernel
theorem dX8_init_127 : decode cX8_init 127 = .ok (.iastore, 1) := by decide +kernel
theorem dX8_init_128 : decode cX8_init 128 = .ok (.putfield 22, 3) := by decide +kernel
theorem dX8_init_131 : decode cX8_init 131 = .ok (.aload_n 0, 1) := by decide +kernel
theorem dX8_init_132 : decode cX8_init 132 = .ok (.sipush 160, 3) := by decide +kernel
theorem dX8_init_135 : decode cX8_init 135 = .ok (.newarray .int, 2) := by decide +kernel
theorem dX8_init_137 : decode cX8_init 137 = .ok (.putfield 25, 3) := by decide +kernel
theorem dX8_init_140 : decode cX8_init 140 = .ok (.aload_n 0, 1) := by decide +kernel
theorem dX8_init_141 : decode cX8_init 141 = .ok (.sipush 1200, 3) := by decide +kernel
theorem dX8_init_144 : decode cX8_init 144 = .ok (.newarray .int, 2) := by decide +kernel
theorem dX8_init_146 : decode cX8_init 146 = .ok (.putfield 28, 3) := by decide +kernel
theorem dX8_init_149 : decode cX8_init 149 = .ok (.aload_n 0, 1) := by decide +kernel
theorem dX8_init_150 : decode cX8_init 150 = .ok (.bipush 24, 2) := by decide +kernel
theorem dX8_init_152 : decode cX8_init 152 = .ok (.newarray .int, 2) := by decide +kernel
theorem dX8_init_154 : decode cX8_init 154 = .ok (.putfield 31, 3) := by decide +kernel
theorem dX8_init_157 : decode cX8_init 157 = .ok (.aload_n 0, 1) := by decide +kernel
theorem dX8_init_158 : decode cX8_init 158 = .ok (.bipush 51, 2) := by decide +kernel
theorem dX8_init_160 : decode cX8_init 160 = .ok (.newarray .int, 2) := by decide +kernel
theorem dX8_init_162 : decode cX8_init 162 = .ok (.putfield 34, 3) := by decide +kernel
theorem dX8_init_165 : decode cX8_init 165 = .ok (.aload_n 0, 1) := by decide +kernel
theorem dX8_init_166 : decode cX8_init 166 = .ok (.iconst 4, 1) := by decide +kernel
theorem dX8_init_167 : decode cX8_init 167 = .ok (.newarray .int, 2) := by decide +kernel
theorem dX8_init_169 : decode cX8_init 169 = .ok (.dup, 1) := by decide +kernel
theorem dX8_init_170 : decode cX8_init 170 = .ok (.iconst 0, 1) := by decide +kernel
theorem dX8_init_171 : decode cX8_init 171 = .ok (.iconst (-1), 1) := by decide +kernel
theorem dX8_init_172 : decode cX8_init 172 = .ok (.iastore, 1) := by decide +kernel
theorem dX8_init_173 : decode cX8_init 173 = .ok (.dup, 1) := by decide +kernel
theorem dX8_init_174 : decode cX8_init 174 = .ok (.iconst 1, 1) := by decide +kernel
theorem dX8_init_175 : decode cX8_init 175 = .ok (.iconst (-1), 1) := by decide +kernel
theorem dX8_init_176 : decode cX8_init 176 = .ok (.iastore, 1) := by decide +kernel
theorem dX8_init_177 : decode cX8_init 177 = .ok (.dup, 1) := by decide +kernel
theorem dX8_init_178 : decode cX8_init 178 = .ok (.iconst 2, 1) := by decide +kernel
theorem dX8_init_179 : decode cX8_init 179 = .ok (.iconst (-1), 1) := by decide +kernel
theorem dX8_init_180 : decode cX8_init 180 = .ok (.iastore, 1) := by decide +kernel
theorem dX8_init_181 : decode cX8_init 181 = .ok (.dup, 1) := by decide +kernel
theorem dX8_init_182 : decode cX8_init 182 = .ok (.iconst 3, 1) := by decide +kernel
theorem dX8_init_183 : decode cX8_init 183 = .ok (.iconst (-1), 1) := by decide +kernel
theorem dX8_init_184 : decode cX8_init 184 = .ok (.iastore, 1) := by decide +kernel
theorem dX8_init_185 : decode cX8_init 185 = .ok (.putfield 37, 3) := by decide +kernel
theorem dX8_init_188 : decode cX8_init 188 = .ok (.aload_n 0, 1) := by decide +kernel
theorem dX8_init_189 : decode cX8_init 189 = .ok (.iconst 4, 1) := by decide +kernel
theorem dX8_init_190 : decode cX8_init 190 = .ok (.newarray .int, 2) := by decide +kernel
theorem dX8_init_192 : decode cX8_init 192 = .ok (.putfield 40, 3) := by decide +kernel
theorem dX8_init_195 : decode cX8_init 195 = .ok (.aload_n 0, 1) := by decide +kernel
theorem dX8_init_196 : decode cX8_init 196 = .ok (.sipush 160, 3) := by decide +kernel
theorem dX8_init_199 : decode cX8_init 199 = .ok (.newarray .int, 2) := by decide +kernel
theorem dX8_init_201 : decode cX8_init 201 = .ok (.putfield 43, 3) := by decide +kernel
theorem dX8_init_204 : decode cX8_init 204 = .ok (.aload_n 0, 1) := by decide +kernel
theorem dX8_init_205 : decode cX8_init 205 = .ok (.bipush 45, 2) := by decide +kernel
theorem dX8_init_207 : decode cX8_init 207 = .ok (.newarray .int, 2) := by decide +kernel
theorem dX8_init_209 : decode cX8_init 209 = .ok (.dup, 1) := by decide +kernel
theorem dX8_init_210 : decode cX8_init 210 = .ok (.iconst 0, 1) := by decide +kernel
theorem dX8_init_211 : decode cX8_init 211 = .ok (.bipush 121, 2) := by decide +kernel
theorem dX8_init_213 : decode cX8_init 213 = .ok (.iastore, 1) := by decide +kernel
theorem dX8_init_214 : decode cX8_init 214 = .ok (.dup, 1) := by decide +kernel
theorem dX8_init_215 : decode cX8_init 215 = .ok (.iconst 1, 1) := by decide +kernel
theorem dX8_init_216 : decode cX8_init 216 = .ok (.bipush 105, 2) := by decide +kernel
theorem dX8_init_218 : decode cX8_init 218 = .ok (.iastore, 1) := by decide +kernel
theorem dX8_init_219 : decode cX8_init 219 = .ok (.dup, 1) := by decide +kernel
theorem dX8_init_220 : decode cX8_init 220 = .ok (.iconst 2, 1) := by decide +kernel
theorem dX8_init_221 : decode cX8_init 221 = .ok (.bipush 101, 2) := by decide +kernel
theorem dX8_init_223 : decode cX8_init 223 = .ok (.iastore, 1) := by decide +kernel
theorem dX8_init_224 : decode cX8_init 224 = .ok (.dup, 1) := by decide +kernel
theorem dX8_init_225 : decode cX8_init 225 = .ok (.iconst 3, 1) := by decide +kernel
theorem dX8_init_226 : decode cX8_init 226 = .ok (.bipush 108, 2) := by decide +kernel
theorem dX8_init_228 : decode cX8_init 228 = .ok (.iastore, 1) := by decide +kernel
theorem dX8_init_229 : decode cX8_init 229 = .ok (.dup, 1) := by decide +kernel
theorem dX8_init_230 : decode cX8_init 230 = .ok (.iconst 4, 1) := by decide +kernel
theorem dX8_init_231 : decode cX8_init 231 = .ok (.bipush 100, 2) := by decide +kernel
theorem dX8_init_233 : decode cX8_init 233 = .ok (.iastore, 1) := by decide +kernel
theorem dX8_init_234 : decode cX8_init 234 = .ok (.dup, 1) := by decide +kernel
theorem dX8_init_235 : decode cX8_init 235 = .ok (.iconst 5, 1) := by decide +kernel
theorem dX8_init_236 : decode cX8_init 236 = .ok (.bipush 115, 2) := by decide +kernel
theorem dX8_init_238 : decode cX8_init 238 = .ok (.iastore, 1) := by decide +kernel
theorem dX8_init_239 : decode cX8_init 239 = .ok (.dup, 1) := by decide +kernel
theorem dX8_init_240 : decode cX8_init 240 = .ok (.bipush 6, 2) := by decide +kernel
theorem dX8_init_242 : decode cX8_init 242 = .ok (.bipush 32, 2) := by decide +kernel
theorem dX8_init_244 : decode cX8_init 244 = .ok (.iastore, 1) := by decide +kernel
theorem dX8_init_245 : decode cX8_init 245 = .ok (.dup, 1) := by decide +kernel
theorem dX8_init_246 : decode cX8_init 246 = .ok (.bipush 7, 2) := by decide +kernel
theorem dX8_init_248 : decode cX8_init 248 = .ok (.bipush 50, 2) := by decide +kernel
theorem dX8_init_250 : decode cX8_init 250 = .ok (.iastore, 1) := by decide +kernel
theorem dX8_init_251 : decode cX8_init 251 = .ok (.dup, 1) := by decide +kernel
theorem dX8_init_252 : decode cX8_init 252 = .ok (.bipush 8, 2) := by decide +kernel
theorem dX8_init_254 : decode cX8_init 254 = .ok (.bipush 48, 2) := by decide +kernel
theorem dX8_init_256 : decode cX8_init 256 = .ok (.iastore, 1) := by decide +kernel
theorem dX8_init_257 : decode cX8_init 257 = .ok (.dup, 1) := by decide +kernel
theorem dX8_init_258 : decode cX8_init 258 = .ok (.bipush 9, 2) := by decide +kernel
theorem dX8_init_260 : decode cX8_init 260 = .ok (.bipush 32, 2) := by decide +kernel
theorem dX8_init_262 : decode cX8_init 262 = .ok (.iastore, 1) := by decide +kernel
theorem dX8_init_263 : decode cX8_init 263 = .ok (.dup, 1) := by decide +kernel
theorem dX8_init_264 : decode cX8_init 264 = .ok (.bipush 10, 2) := by decide +kernel
theorem dX8_init_266 : decode cX8_init 266 = .ok (.bipush 43, 2) := by decide +kernel
theorem dX8_init_268 : decode cX8_init 268 = .ok (.iastore, 1) := by decide +kernel
theorem dX8_init_269 : decode cX8_init 269 = .ok (.dup, 1) := by decide +kernel
theorem dX8_init_270 : decode cX8_init 270 = .ok (.bipush 11, 2) := by decide +kernel
theorem dX8_init_272 : decode cX8_init 272 = .ok (.bipush 32, 2) := by decide +kernel
theorem dX8_init_274 : decode cX8_init 274 = .ok (.iastore, 1) := by decide +kernel
theorem dX8_init_275 : decode cX8_init 275 = .ok (.dup, 1) := by decide +kernel
theorem dX8_init_276 : decode cX8_init 276 = .ok (.bipush 12, 2) := by decide +kernel
theorem dX8_init_278 : decode cX8_init 278 = .ok (.bipush 104, 2) := by decide +kernel
theorem dX8_init_280 : decode cX8_init 280 = .ok (.iastore, 1) := by decide +kernel
theorem dX8_init_281 : decode cX8_init 281 = .ok (.dup, 1) := by decide +kernel
theorem dX8_init_282 : decode cX8_init 282 = .ok (.bipush 13, 2) := by decide +kernel
theorem dX8_init_284 : decode cX8_init 284 = .ok (.bipush 117, 2) := by decide +kernel
theorem dX8_init_286 : decode cX8_init 286 = .ok (.iastore, 1) := by decide +kernel
theorem dX8_init_287 : decode cX8_init 287 = .ok (.dup, 1) := by decide +kernel
theorem dX8_init_288 : decode cX8_init 288 = .ok (.bipush 14, 2) := by decide +kernel
theorem dX8_init_290 : decode cX8_init 290 = .ok (.bipush 109, 2) := by decide +kernel
theorem dX8_init_292 : decode cX8_init 292 = .ok (.iastore, 1) := by decide +kernel
theorem dX8_init_293 : decode cX8_init 293 = .ok (.dup, 1) := by decide +kernel
theorem dX8_init_294 : decode cX8_init 294 = .ok (.bipush 15, 2) := by decide +kernel
theorem dX8_init_296 : decode cX8_init 296 = .ok (.bipush 111, 2) := by decide +kernel
theorem dX8_init_298 : decode cX8_init 298 = .ok (.iastore, 1) := by decide +kernel
theorem dX8_init_299 : decode cX8_init 299 = .ok (.dup, 1) := by decide +kernel
theorem dX8_init_300 : decode cX8_init 300 = .ok (.bipush 16, 2) := by decide +kernel
theorem dX8_init_302 : decode cX8_init 302 = .ok (.bipush 117, 2) := by decide +kernel
theorem dX8_init_304 : decode cX8_init 304 = .ok (.iastore, 1) := by decide +kernel
theorem dX8_init_305 : decode cX8_init 305 = .ok (.dup, 1) := by decide +kernel
theorem dX8_init_306 : decode cX8_init 306 = .ok (.bipush 17, 2) := by decide +kernel
theorem dX8_init_308 : decode cX8_init 308 = .ok (.bipush 114, 2) := by decide +kernel
theorem dX8_init_310 : decode cX8_init 310 = .ok (.iastore, 1) := by decide +kernel
theorem dX8_init_311 : decode cX8_init 311 = .ok (.dup, 1) := by decide +kernel
theorem dX8_init_312 : decode cX8_init 312 = .ok (.bipush 18, 2) := by decide +kernel
theorem dX8_init_314 : decode cX8_init 314 = .ok (.bipush 32, 2) := by decide +kernel
theorem dX8_init_316 : decode cX8_init 316 = .ok (.iastore, 1) := by decide +kernel
theorem dX8_init_317 : decode cX8_init 317 = .ok (.dup, 1) := by decide +kernel
theorem dX8_init_318 : decode cX8_init 318 = .ok (.bipush 19, 2) := by decide +kernel
theorem dX8_init_320 : decode cX8_init 320 = .ok (.bipush 42, 2) := by decide +kernel
theorem dX8_init_322 : decode cX8_init 322 = .ok (.iastore, 1) := by decide +kernel
theorem dX8_init_323 : decode cX8_init 323 = .ok (.dup, 1) := by decide +kernel
theorem dX8_init_324 : decode cX8_init 324 = .ok (.bipush 20, 2) := by decide +kernel
theorem dX8_init_326 : decode cX8_init 326 = .ok (.bipush 32, 2) := by decide +kernel
theorem dX8_init_328 : decode cX8_init 328 = .ok (.iastore, 1) := by decide +kernel
theorem dX8_init_329 : decode cX8_init 329 = .ok (.dup, 1) := by decide +kernel
theorem dX8_init_330 : decode cX8_init 330 = .ok (.bipush 21, 2) := by decide +kernel
theorem dX8_init_332 : decode cX8_init 332 = .ok (.bipush 51, 2) := by decide +kernel
theorem dX8_init_334 : decode cX8_init 334 = .ok (.iastore, 1) := by decide +kernel
theorem dX8_init_335 : decode cX8_init 335 = .ok (.dup, 1) := by decide +kernel
theorem dX8_init_336 : decode cX8_init 336 = .ok (.bipush 22, 2) := by decide +kernel
theorem dX8_init_338 : decode cX8_init 338 = .ok (.bipush 32, 2) := by decide +kernel
theorem dX8_init_340 : decode cX8_init 340 = .ok (.iastore, 1) := by decide +kernel
theorem dX8_init_341 : decode cX8_init 341 = .ok (.dup, 1) := by decide +kernel
theorem dX8_init_342 : decode cX8_init 342 = .ok (.bipush 23, 2) := by decide +kernel
theorem dX8_init_344 : decode cX8_init 344 = .ok (.bipush 59, 2) := by decide +kernel
theorem dX8_init_346 : decode cX8_init 346 = .ok (.iastore, 1) := by decide +kernel
theorem dX8_init_347 : decode cX8_init 347 = .ok (.dup, 1) := by decide +kernel
theorem dX8_init_348 : decode cX8_init 348 = .ok (.bipush 24, 2) := by decide +kernel
theorem dX8_init_350 : decode cX8_init 350 = .ok (.bipush 32, 2) := by decide +kernel
theorem dX8_init_352 : decode cX8_init 352 = .ok (.iastore, 1) := by decide +kernel
theorem dX8_init_353 : decode cX8_init 353 = .ok (.dup, 1) := by decide +kernel
theorem dX8_init_354 : decode cX8_init 354 = .ok (.bipush 25, 2) := by decide +kernel
theorem dX8_init_356 : decode cX8_init 356 = .ok (.bipush 102, 2) := by decide +kernel
theorem dX8_init_358 : decode cX8_init 358 = .ok (.iastore, 1) := by decide +kernel
theorem dX8_init_359 : decode cX8_init 359 = .ok (.dup, 1) := by decide +kernel
theorem dX8_init_360 : decode cX8_init 360 = .ok (.bipush 26, 2) := by decide +kernel
theorem dX8_init_362 : decode cX8_init 362 = .ok (.bipush 97, 2) := by decide +kernel
theorem dX8_init_364 : decode cX8_init 364 = .ok (.iastore, 1) := by decide +kernel
theorem dX8_init_365 : decode cX8_init 365 = .ok (.dup, 1) := by decide +kernel
theorem dX8_init_366 : decode cX8_init 366 = .ok (.bipush 27, 2) := by decide +kernel
theorem dX8_init_368 : decode cX8_init 368 = .ok (.bipush 100, 2) := by decide +kernel
theorem dX8_init_370 : decode cX8_init 370 = .ok (.iastore, 1) := by decide +kernel
theorem dX8_init_371 : decode cX8_init 371 = .ok (.dup, 1) := by decide +kernel
theorem dX8_init_372 : decode cX8_init 372 = .ok (.bipush 28, 2) := by decide +kernel
theorem dX8_init_374 : decode cX8_init 374 = .ok (.bipush 101, 2) := by decide +kernel
theorem dX8_init_376 : decode cX8_init 376 = .ok (.iastore, 1) := by decide +kernel
theorem dX8_init_377 : decode cX8_init 377 = .ok (.dup, 1) := by decide +kernel
theorem dX8_init_378 : decode cX8_init 378 = .ok (.bipush 29, 2) := by decide +kernel
theorem dX8_init_380 : decode cX8_init 380 = .ok (.bipush 115, 2) := by decide +kernel
theorem dX8_init_382 : decode cX8_init 382 = .ok (.iastore, 1) := by decide +kernel
theorem dX8_init_383 : decode cX8_init 383 = .ok (.dup, 1) := by decide +kernel
theorem dX8_init_384 : decode cX8_init 384 = .ok (.bipush 30, 2) := by decide +kernel
theorem dX8_init_386 : decode cX8_init 386 = .ok (.bipush 32, 2) := by decide +kernel
theorem dX8_init_388 : decode cX8_init 388 = .ok (.iastore, 1) := by decide +kernel
theorem dX8_init_389 : decode cX8_init 389 = .ok (.dup, 1) := by decide +kernel
theorem dX8_init_390 : decode cX8_init 390 = .ok (.bipush 31, 2) := by decide +kernel
theorem dX8_init_392 : decode cX8_init 392 = .ok (.bipush 49, 2) := by decide +kernel
theorem dX8_init_394 : decode cX8_init 394 = .ok (.iastore, 1) := by decide +kernel
theorem dX8_init_395 : decode cX8_init 395 = .ok (.dup, 1) := by decide +kernel
theorem dX8_init_396 : decode cX8_init 396 = .ok (.bipush 32, 2) := by decide +kernel
theorem dX8_init_398 : decode cX8_init 398 = .ok (.bipush 48, 2) := by decide +kernel
theorem dX8_init_400 : decode cX8_init 400 = .ok (.iastore, 1) := by decide +kernel
theorem dX8_init_401 : decode cX8_init 401 = .ok (.dup, 1) := by decide +kernel
theorem dX8_init_402 : decode cX8_init 402 = .ok (.bipush 33, 2) := by decide +kernel
theorem dX8_init_404 : decode cX8_init 404 = .ok (.bipush 32, 2) := by decide +kernel
theorem dX8_init_406 : decode cX8_init 406 = .ok (.iastore, 1) := by decide +kernel
theorem dX8_init_407 : decode cX8_init 407 = .ok (.dup, 1) := by decide +kernel
theorem dX8_init_408 : decode cX8_init 408 = .ok (.bipush 34, 2) := by decide +kernel
theorem dX8_init_410 : decode cX8_init 410 = .ok (.bipush 59, 2) := by decide +kernel
theorem dX8_init_412 : decode cX8_init 412 = .ok (.iastore, 1) := by decide +kernel
theorem dX8_init_413 : decode cX8_init 413 = .ok (.dup, 1) := by decide +kernel
theorem dX8_init_414 : decode cX8_init 414 = .ok (.bipush 35, 2) := by decide +kernel
theorem dX8_init_416 : decode cX8_init 416 = .ok (.bipush 32, 2) := by decide +kernel
theorem dX8_init_418 : decode cX8_init 418 = .ok (.iastore, 1) := by decide +kernel
theorem dX8_init_419 : decode cX8_init 419 = .ok (.dup, 1) := by decide +kernel
theorem dX8_init_420 : decode cX8_init 420 = .ok (.bipush 36, 2) := by decide +kernel
theorem dX8_init_422 : decode cX8_init 422 = .ok (.bipush 109, 2) := by decide +kernel
theorem dX8_init_424 : decode cX8_init 424 = .ok (.iastore, 1) := by decide +kernel
theorem dX8_init_425 : decode cX8_init 425 = .ok (.dup, 1) := by decide +kernel
theorem dX8_init_426 : decode cX8_init 426 = .ok (.bipush 37, 2) := by decide +kernel
theorem dX8_init_428 : decode cX8_init 428 = .ok (.bipush 105, 2) := by decide +kernel
theorem dX8_init_430 : decode cX8_init 430 = .ok (.iastore, 1) := by decide +kernel
theorem dX8_init_431 : decode cX8_init 431 = .ok (.dup, 1) := by decide +kernel
theorem dX8_init_432 : decode cX8_init 432 = .ok (.bipush 38, 2) := by decide +kernel
theorem dX8_init_434 : decode cX8_init 434 = .ok (.bipush 110, 2) := by decide +kernel
theorem dX8_init_436 : decode cX8_init 436 = .ok (.iastore, 1) := by decide +kernel
theorem dX8_init_437 : decode cX8_init 437 = .ok (.dup, 1) := by decide +kernel
theorem dX8_init_438 : decode cX8_init 438 = .ok (.bipush 39, 2) := by decide +kernel
theorem dX8_init_440 : decode cX8_init 440 = .ok (.bipush 100, 2) := by decide +kernel
theorem dX8_init_442 : decode cX8_init 442 = .ok (.iastore, 1) := by decide +kernel
theorem dX8_init_443 : decode cX8_init 443 = .ok (.dup, 1) := by decide +kernel
theorem dX8_init_444 : decode cX8_init 444 = .ok (.bipush 40, 2) := by decide +kernel
theorem dX8_init_446 : decode cX8_init 446 = .ok (.bipush 115, 2) := by decide +kernel
theorem dX8_init_448 : decode cX8_init 448 = .ok (.iastore, 1) := by decide +kernel
theorem dX8_init_449 : decode cX8_init 449 = .ok (.dup, 1) := by decide +kernel
theorem dX8_init_450 : decode cX8_init 450 = .ok (.bipush 41, 2) := by decide +kernel
theorem dX8_init_452 : decode cX8_init 452 = .ok (.bipush 32, 2) := by decide +kernel
theorem dX8_init_454 : decode cX8_init 454 = .ok (.iastore, 1) := by decide +kernel
theorem dX8_init_455 : decode cX8_init 455 = .ok (.dup, 1) := by decide +kernel
theorem dX8_init_456 : decode cX8_init 456 = .ok (.bipush 42, 2) := by decide +kernel
theorem dX8_init_458 : decode cX8_init 458 = .ok (.bipush 53, 2) := by decide +kernel
theorem dX8_init_460 : decode cX8_init 460 = .ok (.iastore, 1) := by decide +kernel
theorem dX8_init_461 : decode cX8_init 461 = .ok (.dup, 1) := by decide +kernel
theorem dX8_init_462 : decode cX8_init 462 = .ok (.bipush 43, 2) := by decide +kernel
theorem dX8_init_464 : decode cX8_init 464 = .ok (.bipush 32, 2) := by decide +kernel
theorem dX8_init_466 : decode cX8_init 466 = .ok (.iastore, 1) := by decide +kernel
theorem dX8_init_467 : decode cX8_init 467 = .ok (.dup, 1) := by decide +kernel
theorem dX8_init_468 : decode cX8_init 468 = .ok (.bipush 44, 2) := by decide +kernel
theorem dX8_init_470 : decode cX8_init 470 = .ok (.bipush 59, 2) := by decide +kernel
theorem dX8_init_472 : decode cX8_init 472 = .ok (.iastore, 1) := by decide +kernel
theorem dX8_init_473 : decode cX8_init 473 = .ok (.putfield 46, 3) := by decide +kernel
theorem dX8_init_476 : decode cX8_init 476 = .ok (.aload_n 0, 1) := by decide +kernel
theorem dX8_init_477 : decode cX8_init 477 = .ok (.bipush 96, 2) := by decide +kernel
theorem dX8_init_479 : decode cX8_init 479 = .ok (.newarray .int, 2) := by decide +kernel
theorem dX8_init_481 : decode cX8_init 481 = .ok (.dup, 1) := by decide +kernel
theorem dX8_init_482 : decode cX8_init 482 = .ok (.iconst 0, 1) := by decide +kernel
theorem dX8_init_483 : decode cX8_init 483 = .ok (.bipush 121, 2) := by decide +kernel
theorem dX8_init_485 : decode cX8_init 485 = .ok (.iastore, 1) := by decide +kernel
theorem dX8_init_486 : decode cX8_init 486 = .ok (.dup, 1) := by decide +kernel
theorem dX8_init_487 : decode cX8_init 487 = .ok (.iconst 1, 1) := by decide +kernel
theorem dX8_init_488 : decode cX8_init 488 = .ok (.bipush 105, 2) := by decide +kernel
theorem dX8_init_490 : decode cX8_init 490 = .ok (.iastore, 1) := by decide +kernel
theorem dX8_init_491 : decode cX8_init 491 = .ok (.dup, 1) := by decide +kernel
theorem dX8_init_492 : decode cX8_init 492 = .ok (.iconst 2, 1) := by decide +kernel
theorem dX8_init_493 : decode cX8_init 493 = .ok (.bipush 101, 2) := by decide +kernel
theorem dX8_init_495 : decode cX8_init 495 = .ok (.iastore, 1) := by decide +kernel
theorem dX8_init_496 : decode cX8_init 496 = .ok (.dup, 1) := by decide +kernel
theorem dX8_init_497 : decode cX8_init 497 = .ok (.iconst 3, 1) := by decide +kernel
theorem dX8_init_498 : decode cX8_init 498 = .ok (.bipush 108, 2) := by decide +kernel
theorem dX8_init_500 : decode cX8_init 500 = .ok (.iastore, 1) := by decide +kernel
theorem dX8_init_501 : decode cX8_init 501 = .ok (.dup, 1) := by decide +kernel
theorem dX8_init_502 : decode cX8_init 502 = .ok (.iconst 4, 1) := by decide +kernel
theorem dX8_init_503 : decode cX8_init 503 = .ok (.bipush 100, 2) := by decide +kernel
theorem dX8_init_505 : decode cX8_init 505 = .ok (.iastore, 1) := by decide +kernel
theorem dX8_init_506 : decode cX8_init 506 = .ok (.dup, 1) := by decide +kernel
theorem dX8_init_507 : decode cX8_init 507 = .ok (.iconst 5, 1) := by decide +kernel
theorem dX8_init_508 : decode cX8_init 508 = .ok (.bipush 115, 2) := by decide +kernel
theorem dX8_init_510 : decode cX8_init 510 = .ok (.iastore, 1) := by decide +kernel
theorem dX8_init_511 : decode cX8_init 511 = .ok (.dup, 1) := by decide +kernel
theorem dX8_init_512 : decode cX8_init 512 = .ok (.bipush 6, 2) := by decide +kernel
theorem dX8_init_514 : decode cX8_init 514 = .ok (.bipush 32, 2) := by decide +kernel
theorem dX8_init_516 : decode cX8_init 516 = .ok (.iastore, 1) := by decide +kernel
theorem dX8_init_517 : decode cX8_init 517 = .ok (.dup, 1) := by decide +kernel
theorem dX8_init_518 : decode cX8_init 518 = .ok (.bipush 7, 2) := by decide +kernel
theorem dX8_init_520 : decode cX8_init 520 = .ok (.bipush 32, 2) := by decide +kernel
theorem dX8_init_522 : decode cX8_init 522 = .ok (.iastore, 1) := by decide +kernel
theorem dX8_init_523 : decode cX8_init 523 = .ok (.dup, 1) := by decide +kernel
theorem dX8_init_524 : decode cX8_init 524 = .ok (.bipush 8, 2) := by decide +kernel
theorem dX8_init_526 : decode cX8_init 526 = .ok (.bipush 102, 2) := by decide +kernel
theorem dX8_init_528 : decode cX8_init 528 = .ok (.iastore, 1) := by decide +kernel
theorem dX8_init_529 : decode cX8_init 529 = .ok (.dup, 1) := by decide +kernel
theorem dX8_init_530 : decode cX8_init 530 = .ok (.bipush 9, 2) := by decide +kernel
theorem dX8_init_532 : decode cX8_init 532 = .ok (.bipush 97, 2) := by decide +kernel
theorem dX8_init_534 : decode cX8_init 534 = .ok (.iastore, 1) := by decide +kernel
theorem dX8_init_535 : decode cX8_init 535 = .ok (.dup, 1) := by decide +kernel
theorem dX8_init_536 : decode cX8_init 536 = .ok (.bipush 10, 2) := by decide +kernel
theorem dX8_init_538 : decode cX8_init 538 = .ok (.bipush 100, 2) := by decide +kernel
theorem dX8_init_540 : decode cX8_init 540 = .ok (.iastore, 1) := by decide +kernel
theorem dX8_init_541 : decode cX8_init 541 = .ok (.dup, 1) := by decide +kernel
theorem dX8_init_542 : decode cX8_init 542 = .ok (.bipush 11, 2) := by decide +kernel
theorem dX8_init_544 : decode cX8_init 544 = .ok (.bipush 101, 2) := by decide +kernel
theorem dX8_init_546 : decode cX8_init 546 = .ok (.iastore, 1) := by decide +kernel
theorem dX8_init_547 : decode cX8_init 547 = .ok (.dup, 1) := by decide +kernel
theorem dX8_init_548 : decode cX8_init 548 = .ok (.bipush 12, 2) := by decide +kernel
theorem dX8_init_550 : decode cX8_init 550 = .ok (.bipush 115, 2) := by decide +kernel
theorem dX8_init_552 : decode cX8_init 552 = .ok (.iastore, 1) := by decide +kernel
theorem dX8_init_553 : decode cX8_init 553 = .ok (.dup, 1) := by decide +kernel
theorem dX8_init_554 : decode cX8_init 554 = .ok (.bipush 13, 2) := by decide +kernel
theorem dX8_init_556 : decode cX8_init 556 = .ok (.bipush 32, 2) := by decide +kernel
theorem dX8_init_558 : decode cX8_init 558 = .ok (.iastore, 1) := by decide +kernel
theorem dX8_init_559 : decode cX8_init 559 = .ok (.dup, 1) := by decide +kernel
theorem dX8_init_560 : decode cX8_init 560 = .ok (.bipush 14, 2) := by decide +kernel
theorem dX8_init_562 : decode cX8_init 562 = .ok (.bipush 32, 2) := by decide +kernel
theorem dX8_init_564 : decode cX8_init 564 = .ok (.iastore, 1) := by decide +kernel
theorem dX8_init_565 : decode cX8_init 565 = .ok (.dup, 1) := by decide +kernel
theorem dX8_init_566 : decode cX8_init 566 = .ok (.bipush 15, 2) := by decide +kernel
theorem dX8_init_568 : decode cX8_init 568 = .ok (.bipush 32, 2) := by decide +kernel
theorem dX8_init_570 : decode cX8_init 570 = .ok (.iastore, 1) := by decide +kernel
theorem dX8_init_571 : decode cX8_init 571 = .ok (.dup, 1) := by decide +kernel
theorem dX8_init_572 : decode cX8_init 572 = .ok (.bipush 16, 2) := by decide +kernel
theorem dX8_init_574 : decode cX8_init 574 = .ok (.bipush 109, 2) := by decide +kernel
theorem dX8_init_576 : decode cX8_init 576 = .ok (.iastore, 1) := by decide +kernel
theorem dX8_init_577 : decode cX8_init 577 = .ok (.dup, 1) := by decide +kernel
theorem dX8_init_578 : decode cX8_init 578 = .ok (.bipush 17, 2) := by decide +kernel
theorem dX8_init_580 : decode cX8_init 580 = .ok (.bipush 105, 2) := by decide +kernel
theorem dX8_init_582 : decode cX8_init 582 = .ok (.iastore, 1) := by decide +kernel
theorem dX8_init_583 : decode cX8_init 583 = .ok (.dup, 1) := by decide +kernel
theorem dX8_init_584 : decode cX8_init 584 = .ok (.bipush 18, 2) := by decide +kernel
theorem dX8_init_586 : decode cX8_init 586 = .ok (.bipush 110, 2) := by decide +kernel
theorem dX8_init_588 : decode cX8_init 588 = .ok (.iastore, 1) := by decide +kernel
theorem dX8_init_589 : decode cX8_init 589 = .ok (.dup, 1) := by decide +kernel
theorem dX8_init_590 : decode cX8_init 590 = .ok (.bipush 19, 2) := by decide +kernel
theorem dX8_init_592 : decode cX8_init 592 = .ok (.bipush 100, 2) := by decide +kernel
theorem dX8_init_594 : decode cX8_init 594 = .ok (.iastore, 1) := by decide +kernel
theorem dX8_init_595 : decode cX8_init 595 = .ok (.dup, 1) := by decide +kernel
theorem dX8_init_596 : decode cX8_init 596 = .ok (.bipush 20, 2) := by decide +kernel
theorem dX8_init_598 : decode cX8_init 598 = .ok (.bipush 115, 2) := by decide +kernel
theorem dX8_init_600 : decode cX8_init 600 = .ok (.iastore, 1) := by decide +kernel
theorem dX8_init_601 : decode cX8_init 601 = .ok (.dup, 1) := by decide +kernel
theorem dX8_init_602 : decode cX8_init 602 = .ok (.bipush 21, 2) := by decide +kernel
theorem dX8_init_604 : decode cX8_init 604 = .ok (.bipush 32, 2) := by decide +kernel
theorem dX8_init_606 : decode cX8_init 606 = .ok (.iastore, 1) := by decide +kernel
theorem dX8_init_607 : decode cX8_init 607 = .ok (.dup, 1) := by decide +kernel
theorem dX8_init_608 : decode cX8_init 608 = .ok (.bipush 22, 2) := by decide +kernel
theorem dX8_init_610 : decode cX8_init 610 = .ok (.bipush 32, 2) := by decide +kernel
theorem dX8_init_612 : decode cX8_init 612 = .ok (.iastore, 1) := by decide +kernel
theorem dX8_init_613 : decode cX8_init 613 = .ok (.dup, 1) := by decide +kernel
theorem dX8_init_614 : decode cX8_init 614 = .ok (.bipush 23, 2) := by decide +kernel
theorem dX8_init_616 : decode cX8_init 616 = .ok (.bipush 32, 2) := by decide +kernel
theorem dX8_init_618 : decode cX8_init 618 = .ok (.iastore, 1) := by decide +kernel
theorem dX8_init_619 : decode cX8_init 619 = .ok (.dup, 1) := by decide +kernel
theorem dX8_init_620 : decode cX8_init 620 = .ok (.bipush 24, 2) := by decide +kernel
theorem dX8_init_622 : decode cX8_init 622 = .ok (.bipush 116, 2) := by decide +kernel
theorem dX8_init_624 : decode cX8_init 624 = .ok (.iastore, 1) := by decide +kernel
theorem dX8_init_625 : decode cX8_init 625 = .ok (.dup, 1) := by decide +kernel
theorem dX8_init_626 : decode cX8_init 626 = .ok (.bipush 25, 2) := by decide +kernel
theorem dX8_init_628 : decode cX8_init 628 = .ok (.bipush 111, 2) := by decide +kernel
theorem dX8_init_630 : decode cX8_init 630 = .ok (.iastore, 1) := by decide +kernel
theorem dX8_init_631 : decode cX8_init 631 = .ok (.dup, 1) := by decide +kernel
theorem dX8_init_632 : decode cX8_init 632 = .ok (.bipush 26, 2) := by decide +kernel
theorem dX8_init_634 : decode cX8_init 634 = .ok (.bipush 108, 2) := by decide +kernel
theorem dX8_init_636 : decode cX8_init 636 = .ok (.iastore, 1) := by decide +kernel
theorem dX8_init_637 : decode cX8_init 637 = .ok (.dup, 1) := by decide +kernel
theorem dX8_init_638 : decode cX8_init 638 = .ok (.bipush 27, 2) := by decide +kernel
theorem dX8_init_640 : decode cX8_init 640 = .ok (.bipush 100, 2) := by decide +kernel
theorem dX8_init_642 : decode cX8_init 642 = .ok (.iastore, 1) := by decide +kernel
theorem dX8_init_643 : decode cX8_init 643 = .ok (.dup, 1) := by decide +kernel
theorem dX8_init_644 : decode cX8_init 644 = .ok (.bipush 28, 2) := by decide +kernel
theorem dX8_init_646 : decode cX8_init 646 = .ok (.bipush 32, 2) := by decide +kernel
theorem dX8_init_648 : decode cX8_init 648 = .ok (.iastore, 1) := by decide +kernel
theorem dX8_init_649 : decode cX8_init 649 = .ok (.dup, 1) := by decide +kernel
theorem dX8_init_650 : decode cX8_init 650 = .ok (.bipush 29, 2) := by decide +kernel
theorem dX8_init_652 : decode cX8_init 652 = .ok (.bipush 32, 2) := by decide +kernel
theorem dX8_init_654 : decode cX8_init 654 = .ok (.iastore, 1) := by decide +kernel
theorem dX8_init_655 : decode cX8_init 655 = .ok (.dup, 1) := by decide +kernel
theorem dX8_init_656 : decode cX8_init 656 = .ok (.bipush 30, 2) := by decide +kernel
theorem dX8_init_658 : decode cX8_init 658 = .ok (.bipush 32, 2) := by decide +kernel
theorem dX8_init_660 : decode cX8_init 660 = .ok (.iastore, 1) := by decide +kernel
