theorem dX8_mine_21 : decode cX8_mine 21 = .ok (.ireturn, 1) := by decide +kernel
theorem dX8_mine_22 : decode cX8_mine 22 = .ok (.iload_n 3, 1) := by decide +kernel
theorem dX8_mine_23 : decode cX8_mine 23 = .ok (.iconst 0, 1) := by decide +kernel
theorem dX8_mine_24 : decode cX8_mine 24 = .ok (.bipush 99, 2) := by decide +kernel
theorem dX8_mine_26 : decode cX8_mine 26 = .ok (.invokestatic 78, 3) := by decide +kernel
theorem dX8_mine_29 : decode cX8_mine 29 = .ok (.ifCond .ne 6, 3) := by decide +kernel
theorem dX8_mine_32 : decode cX8_mine 32 = .ok (.bipush (-7), 2) := by decide +kernel
theorem dX8_mine_34 : decode cX8_mine 34 = .ok (.ireturn, 1) := by decide +kernel
theorem dX8_mine_35 : decode cX8_mine 35 = .ok (.iconst (-1), 1) := by decide +kernel
theorem dX8_mine_36 : decode cX8_mine 36 = .ok (.istore 4, 2) := by decide +kernel
theorem dX8_mine_38 : decode cX8_mine 38 = .ok (.iconst 0, 1) := by decide +kernel
theorem dX8_mine_39 : decode cX8_mine 39 = .ok (.istore 5, 2) := by decide +kernel
theorem dX8_mine_41 : decode cX8_mine 41 = .ok (.iload 5, 2) := by decide +kernel
theorem dX8_mine_43 : decode cX8_mine 43 = .ok (.bipush 100, 2) := by decide +kernel
theorem dX8_mine_45 : decode cX8_mine 45 = .ok (.if_icmp .ge 33, 3) := by decide +kernel
theorem dX8_mine_48 : decode cX8_mine 48 = .ok (.iload 4, 2) := by decide +kernel
theorem dX8_mine_50 : decode cX8_mine 50 = .ok (.iconst (-1), 1) := by decide +kernel
theorem dX8_mine_51 : decode cX8_mine 51 = .ok (.if_icmp .ne 27, 3) := by decide +kernel
theorem dX8_mine_54 : decode cX8_mine 54 = .ok (.aload_n 0, 1) := by decide +kernel
theorem dX8_mine_55 : decode cX8_mine 55 = .ok (.iload_n 1, 1) := by decide +kernel
theorem dX8_mine_56 : decode cX8_mine 56 = .ok (.iload_n 2, 1) := by decide +kernel
theorem dX8_mine_57 : decode cX8_mine 57 = .ok (.invokevirtual 199, 3) := by decide +kernel
theorem dX8_mine_60 : decode cX8_mine 60 = .ok (.iload_n 3, 1) := by decide +kernel
theorem dX8_mine_61 : decode cX8_mine 61 = .ok (.if_icmp .gt 8, 3) := by decide +kernel
theorem dX8_mine_64 : decode cX8_mine 64 = .ok (.iload 5, 2) := by decide +kernel
theorem dX8_mine_66 : decode cX8_mine 66 = .ok (.goto 4, 3) := by decide +kernel
theorem dX8_mine_69 : decode cX8_mine 69 = .ok (.iconst (-1), 1) := by decide +kernel
theorem dX8_mine_70 : decode cX8_mine 70 = .ok (.istore 4, 2) := by decide +kernel
theorem dX8_mine_72 : decode cX8_mine 72 = .ok (.iinc 5 1, 3) := by decide +kernel
theorem dX8_mine_75 : decode cX8_mine 75 = .ok (.goto (-34), 3) := by decide +kernel
theorem dX8_mine_78 : decode cX8_mine 78 = .ok (.aload_n 0, 1) := by decide +kernel
theorem dX8_mine_79 : decode cX8_mine 79 = .ok (.invokevirtual 214, 3) := by decide +kernel
theorem dX8_mine_82 : decode cX8_mine 82 = .ok (.iload 4, 2) := by decide +kernel
theorem dX8_mine_84 : decode cX8_mine 84 = .ok (.ireturn, 1) := by decide +kernel
theorem dX8_roundOf_0 : decode cX8_roundOf 0 = .ok (.iconst 0, 1) := by decide +kernel
theorem dX8_roundOf_1 : decode cX8_roundOf 1 = .ok (.istore_n 2, 1) := by decide +kernel
theorem dX8_roundOf_2 : decode cX8_roundOf 2 = .ok (.iconst 0, 1) := by decide +kernel
theorem dX8_roundOf_3 : decode cX8_roundOf 3 = .ok (.istore_n 3, 1) := by decide +kernel
theorem dX8_roundOf_4 : decode cX8_roundOf 4 = .ok (.iload_n 3, 1) := by decide +kernel
theorem dX8_roundOf_5 : decode cX8_roundOf 5 = .ok (.aload_n 0, 1) := by decide +kernel
theorem dX8_roundOf_6 : decode cX8_roundOf 6 = .ok (.getfield 82, 3) := by decide +kernel
theorem dX8_roundOf_9 : decode cX8_roundOf 9 = .ok (.if_icmp .ge 18, 3) := by decide +kernel
theorem dX8_roundOf_12 : decode cX8_roundOf 12 = .ok (.iload_n 2, 1) := by decide +kernel
theorem dX8_roundOf_13 : decode cX8_roundOf 13 = .ok (.aload_n 0, 1) := by decide +kernel
theorem dX8_roundOf_14 : decode cX8_roundOf 14 = .ok (.iload_n 1, 1) := by decide +kernel
theorem dX8_roundOf_15 : decode cX8_roundOf 15 = .ok (.iload_n 3, 1) := by decide +kernel
theorem dX8_roundOf_16 : decode cX8_roundOf 16 = .ok (.invokevirtual 199, 3) := by decide +kernel
theorem dX8_roundOf_19 : decode cX8_roundOf 19 = .ok (.iadd, 1) := by decide +kernel
theorem dX8_roundOf_20 : decode cX8_roundOf 20 = .ok (.istore_n 2, 1) := by decide +kernel
theorem dX8_roundOf_21 : decode cX8_roundOf 21 = .ok (.iinc 3 1, 3) := by decide +kernel
theorem dX8_roundOf_24 : decode cX8_roundOf 24 = .ok (.goto (-20), 3) := by decide +kernel
theorem dX8_roundOf_27 : decode cX8_roundOf 27 = .ok (.aload_n 0, 1) := by decide +kernel
theorem dX8_roundOf_28 : decode cX8_roundOf 28 = .ok (.invokevirtual 214, 3) := by decide +kernel
theorem dX8_roundOf_31 : decode cX8_roundOf 31 = .ok (.iload_n 2, 1) := by decide +kernel
theorem dX8_roundOf_32 : decode cX8_roundOf 32 = .ok (.ireturn, 1) := by decide +kernel
theorem dX8_round_0 : decode cX8_round 0 = .ok (.iload_n 1, 1) := by decide +kernel
theorem dX8_round_1 : decode cX8_round 1 = .ok (.iconst 0, 1) := by decide +kernel
theorem dX8_round_2 : decode cX8_round 2 = .ok (.iconst 1, 1) := by decide +kernel
theorem dX8_round_3 : decode cX8_round 3 = .ok (.invokestatic 78, 3) := by decide +kernel
theorem dX8_round_6 : decode cX8_round 6 = .ok (.ifCond .ne 6, 3) := by decide +kernel
theorem dX8_round_9 : decode cX8_round 9 = .ok (.bipush (-2), 2) := by decide +kernel
theorem dX8_round_11 : decode cX8_round 11 = .ok (.ireturn, 1) := by decide +kernel
theorem dX8_round_12 : decode cX8_round 12 = .ok (.iconst (-1), 1) := by decide +kernel
theorem dX8_round_13 : decode cX8_round 13 = .ok (.istore_n 2, 1) := by decide +kernel
theorem dX8_round_14 : decode cX8_round 14 = .ok (.iconst (-1), 1) := by decide +kernel
theorem dX8_round_15 : decode cX8_round 15 = .ok (.istore_n 3, 1) := by decide +kernel
theorem dX8_round_16 : decode cX8_round 16 = .ok (.iconst 0, 1) := by decide +kernel
theorem dX8_round_17 : decode cX8_round 17 = .ok (.istore 4, 2) := by decide +kernel
theorem dX8_round_19 : decode cX8_round 19 = .ok (.iload 4, 2) := by decide +kernel
theorem dX8_round_21 : decode cX8_round 21 = .ok (.aload_n 0, 1) := by decide +kernel
theorem dX8_round_22 : decode cX8_round 22 = .ok (.getfield 75, 3) := by decide +kernel
theorem dX8_round_25 : decode cX8_round 25 = .ok (.if_icmp .ge 43, 3) := by decide +kernel
theorem dX8_round_28 : decode cX8_round 28 = .ok (.aload_n 0, 1) := by decide +kernel
theorem dX8_round_29 : decode cX8_round 29 = .ok (.iload 4, 2) := by decide +kernel
theorem dX8_round_31 : decode cX8_round 31 = .ok (.invokevirtual 223, 3) := by decide +kernel
theorem dX8_round_34 : decode cX8_round 34 = .ok (.istore 5, 2) := by decide +kernel
theorem dX8_round_36 : decode cX8_round 36 = .ok (.iload 5, 2) := by decide +kernel
theorem dX8_round_38 : decode cX8_round 38 = .ok (.iload_n 3, 1) := by decide +kernel
theorem dX8_round_39 : decode cX8_round 39 = .ok (.if_icmp .le 8, 3) := by decide +kernel
theorem dX8_round_42 : decode cX8_round 42 = .ok (.iload 4, 2) := by decide +kernel
theorem dX8_round_44 : decode cX8_round 44 = .ok (.goto 4, 3) := by decide +kernel
theorem dX8_round_47 : decode cX8_round 47 = .ok (.iload_n 2, 1) := by decide +kernel
theorem dX8_round_48 : decode cX8_round 48 = .ok (.istore_n 2, 1) := by decide +kernel
theorem dX8_round_49 : decode cX8_round 49 = .ok (.iload 5, 2) := by decide +kernel
theorem dX8_round_51 : decode cX8_round 51 = .ok (.iload_n 3, 1) := by decide +kernel
theorem dX8_round_52 : decode cX8_round 52 = .ok (.if_icmp .le 8, 3) := by decide +kernel
theorem dX8_round_55 : decode cX8_round 55 = .ok (.iload 5, 2) := by decide +kernel
theorem dX8_round_57 : decode cX8_round 57 = .ok (.goto 4, 3) := by decide +kernel
theorem dX8_round_60 : decode cX8_round 60 = .ok (.iload_n 3, 1) := by decide +kernel
theorem dX8_round_61 : decode cX8_round 61 = .ok (.istore_n 3, 1) := by decide +kernel
theorem dX8_round_62 : decode cX8_round 62 = .ok (.iinc 4 1, 3) := by decide +kernel
theorem dX8_round_65 : decode cX8_round 65 = .ok (.goto (-46), 3) := by decide +kernel
theorem dX8_round_68 : decode cX8_round 68 = .ok (.iload_n 1, 1) := by decide +kernel
theorem dX8_round_69 : decode cX8_round 69 = .ok (.ifCond .ne 7, 3) := by decide +kernel
theorem dX8_round_72 : decode cX8_round 72 = .ok (.iload_n 2, 1) := by decide +kernel
theorem dX8_round_73 : decode cX8_round 73 = .ok (.goto 4, 3) := by decide +kernel
theorem dX8_round_76 : decode cX8_round 76 = .ok (.iload_n 3, 1) := by decide +kernel
theorem dX8_round_77 : decode cX8_round 77 = .ok (.ireturn, 1) := by decide +kernel
theorem dX8_losesOf_0 : decode cX8_losesOf 0 = .ok (.aload_n 0, 1) := by decide +kernel
theorem dX8_losesOf_1 : decode cX8_losesOf 1 = .ok (.iload_n 1, 1) := by decide +kernel
theorem dX8_losesOf_2 : decode cX8_losesOf 2 = .ok (.iload_n 2, 1) := by decide +kernel
theorem dX8_losesOf_3 : decode cX8_losesOf 3 = .ok (.invokevirtual 190, 3) := by decide +kernel
theorem dX8_losesOf_6 : decode cX8_losesOf 6 = .ok (.istore_n 3, 1) := by decide +kernel
theorem dX8_losesOf_7 : decode cX8_losesOf 7 = .ok (.iconst 1, 1) := by decide +kernel
theorem dX8_losesOf_8 : decode cX8_losesOf 8 = .ok (.istore 4, 2) := by decide +kernel
theorem dX8_losesOf_10 : decode cX8_losesOf 10 = .ok (.iload 4, 2) := by decide +kernel
theorem dX8_losesOf_12 : decode cX8_losesOf 12 = .ok (.aload_n 0, 1) := by decide +kernel
theorem dX8_losesOf_13 : decode cX8_losesOf 13 = .ok (.getfield 82, 3) := by decide +kernel
theorem dX8_losesOf_16 : decode cX8_losesOf 16 = .ok (.if_icmp .ge 30, 3) := by decide +kernel
theorem dX8_losesOf_19 : decode cX8_losesOf 19 = .ok (.aload_n 0, 1) := by decide +kernel
theorem dX8_losesOf_20 : decode cX8_losesOf 20 = .ok (.iload_n 1, 1) := by decide +kernel
theorem dX8_losesOf_21 : decode cX8_losesOf 21 = .ok (.iload_n 2, 1) := by decide +kernel
theorem dX8_losesOf_22 : decode cX8_losesOf 22 = .ok (.iload 4, 2) := by decide +kernel
theorem dX8_losesOf_24 : decode cX8_losesOf 24 = .ok (.iadd, 1) := by decide +kernel
theorem dX8_losesOf_25 : decode cX8_losesOf 25 = .ok (.aload_n 0, 1) := by decide +kernel
theorem dX8_losesOf_26 : decode cX8_losesOf 26 = .ok (.getfield 82, 3) := by decide +kernel
theorem dX8_losesOf_29 : decode cX8_losesOf 29 = .ok (.iconst 1, 1) := by decide +kernel
theorem dX8_losesOf_30 : decode cX8_losesOf 30 = .ok (.bipush 6, 2) := by decide +kernel
theorem dX8_losesOf_32 : decode cX8_losesOf 32 = .ok (.invokestatic 164, 3) := by decide +kernel
theorem dX8_losesOf_35 : decode cX8_losesOf 35 = .ok (.irem, 1) := by decide +kernel
theorem dX8_losesOf_36 : decode cX8_losesOf 36 = .ok (.invokevirtual 199, 3) := by decide +kernel
theorem dX8_losesOf_39 : decode cX8_losesOf 39 = .ok (.pop, 1) := by decide +kernel
theorem dX8_losesOf_40 : decode cX8_losesOf 40 = .ok (.iinc 4 1, 3) := by decide +kernel
theorem dX8_losesOf_43 : decode cX8_losesOf 43 = .ok (.goto (-33), 3) := by decide +kernel
theorem dX8_losesOf_46 : decode cX8_losesOf 46 = .ok (.aload_n 0, 1) := by decide +kernel
theorem dX8_losesOf_47 : decode cX8_losesOf 47 = .ok (.iload_n 1, 1) := by decide +kernel
theorem dX8_losesOf_48 : decode cX8_losesOf 48 = .ok (.iload_n 2, 1) := by decide +kernel
theorem dX8_losesOf_49 : decode cX8_losesOf 49 = .ok (.invokevirtual 190, 3) := by decide +kernel
theorem dX8_losesOf_52 : decode cX8_losesOf 52 = .ok (.istore 4, 2) := by decide +kernel
theorem dX8_losesOf_54 : decode cX8_losesOf 54 = .ok (.aload_n 0, 1) := by decide +kernel
theorem dX8_losesOf_55 : decode cX8_losesOf 55 = .ok (.invokevirtual 214, 3) := by decide +kernel
theorem dX8_losesOf_58 : decode cX8_losesOf 58 = .ok (.iload_n 3, 1) := by decide +kernel
theorem dX8_losesOf_59 : decode cX8_losesOf 59 = .ok (.iload 4, 2) := by decide +kernel
theorem dX8_losesOf_61 : decode cX8_losesOf 61 = .ok (.isub, 1) := by decide +kernel
theorem dX8_losesOf_62 : decode cX8_losesOf 62 = .ok (.ireturn, 1) := by decide +kernel
theorem dX8_last_0 : decode cX8_last 0 = .ok (.aload_n 0, 1) := by decide +kernel
theorem dX8_last_1 : decode cX8_last 1 = .ok (.iload_n 1, 1) := by decide +kernel
theorem dX8_last_2 : decode cX8_last 2 = .ok (.invokevirtual 174, 3) := by decide +kernel
theorem dX8_last_5 : decode cX8_last 5 = .ok (.ifCond .ne 6, 3) := by decide +kernel
theorem dX8_last_8 : decode cX8_last 8 = .ok (.bipush (-5), 2) := by decide +kernel
theorem dX8_last_10 : decode cX8_last 10 = .ok (.ireturn, 1) := by decide +kernel
theorem dX8_last_11 : decode cX8_last 11 = .ok (.iconst (-1), 1) := by decide +kernel
theorem dX8_last_12 : decode cX8_last 12 = .ok (.istore_n 2, 1) := by decide +kernel
theorem dX8_last_13 : decode cX8_last 13 = .ok (.iconst 0, 1) := by decide +kernel
theorem dX8_last_14 : decode cX8_last 14 = .ok (.istore_n 3, 1) := by decide +kernel
theorem dX8_last_15 : decode cX8_last 15 = .ok (.iconst 0, 1) := by decide +kernel
theorem dX8_last_16 : decode cX8_last 16 = .ok (.istore 4, 2) := by decide +kernel
theorem dX8_last_18 : decode cX8_last 18 = .ok (.iload 4, 2) := by decide +kernel
theorem dX8_last_20 : decode cX8_last 20 = .ok (.aload_n 0, 1) := by decide +kernel
theorem dX8_last_21 : decode cX8_last 21 = .ok (.getfield 82, 3) := by decide +kernel
theorem dX8_last_24 : decode cX8_last 24 = .ok (.if_icmp .ge 60, 3) := by decide +kernel
theorem dX8_last_27 : decode cX8_last 27 = .ok (.aload_n 0, 1) := by decide +kernel
theorem dX8_last_28 : decode cX8_last 28 = .ok (.iload_n 1, 1) := by decide +kernel
theorem dX8_last_29 : decode cX8_last 29 = .ok (.iload 4, 2) := by decide +kernel
theorem dX8_last_31 : decode cX8_last 31 = .ok (.invokevirtual 226, 3) := by decide +kernel
theorem dX8_last_34 : decode cX8_last 34 = .ok (.istore 5, 2) := by decide +kernel
theorem dX8_last_36 : decode cX8_last 36 = .ok (.iload_n 2, 1) := by decide +kernel
theorem dX8_last_37 : decode cX8_last 37 = .ok (.iconst (-1), 1) := by decide +kernel
theorem dX8_last_38 : decode cX8_last 38 = .ok (.if_icmp .eq 9, 3) := by decide +kernel
theorem dX8_last_41 : decode cX8_last 41 = .ok (.iload 5, 2) := by decide +kernel
theorem dX8_last_43 : decode cX8_last 43 = .ok (.iload_n 3, 1) := by decide +kernel
theorem dX8_last_44 : decode cX8_last 44 = .ok (.if_icmp .ge 7, 3) := by decide +kernel
theorem dX8_last_47 : decode cX8_last 47 = .ok (.iconst 1, 1) := by decide +kernel
theorem dX8_last_48 : decode cX8_last 48 = .ok (.goto 4, 3) := by decide +kernel
theorem dX8_last_51 : decode cX8_last 51 = .ok (.iconst 0, 1) := by decide +kernel
theorem dX8_last_52 : decode cX8_last 52 = .ok (.istore 6, 2) := by decide +kernel
theorem dX8_last_54 : decode cX8_last 54 = .ok (.iload 6, 2) := by decide +kernel
theorem dX8_last_56 : decode cX8_last 56 = .ok (.ifCond .eq 8, 3) := by decide +kernel
theorem dX8_last_59 : decode cX8_last 59 = .ok (.iload 4, 2) := by decide +kernel
theorem dX8_last_61 : decode cX8_last 61 = .ok (.goto 4, 3) := by decide +kernel
theorem dX8_last_64 : decode cX8_last 64 = .ok (.iload_n 2, 1) := by decide +kernel
theorem dX8_last_65 : decode cX8_last 65 = .ok (.istore_n 2, 1) := by decide +kernel
theorem dX8_last_66 : decode cX8_last 66 = .ok (.iload 6, 2) := by decide +kernel
theorem dX8_last_68 : decode cX8_last 68 = .ok (.ifCond .eq 8, 3) := by decide +kernel
theorem dX8_last_71 : decode cX8_last 71 = .ok (.iload 5, 2) := by decide +kernel
theorem dX8_last_73 : decode cX8_last 73 = .ok (.goto 4, 3) := by decide +kernel
theorem dX8_last_76 : decode cX8_last 76 = .ok (.iload_n 3, 1) := by decide +kernel
theorem dX8_last_77 : decode cX8_last 77 = .ok (.istore_n 3, 1) := by decide +kernel
theorem dX8_last_78 : decode cX8_last 78 = .ok (.iinc 4 1, 3) := by decide +kernel
theorem dX8_last_81 : decode cX8_last 81 = .ok (.goto (-63), 3) := by decide +kernel
theorem dX8_last_84 : decode cX8_last 84 = .ok (.iload_n 2, 1) := by decide +kernel
theorem dX8_last_85 : decode cX8_last 85 = .ok (.ireturn, 1) := by decide +kernel
theorem dX8_catches_0 : decode cX8_catches 0 = .ok (.iload_n 1, 1) := by decide +kernel
theorem dX8_catches_1 : decode cX8_catches 1 = .ok (.istore_n 3, 1) := by decide +kernel
theorem dX8_catches_2 : decode cX8_catches 2 = .ok (.iconst 0, 1) := by decide +kernel
theorem dX8_catches_3 : decode cX8_catches 3 = .ok (.istore 4, 2) := by decide +kernel
theorem dX8_catches_5 : decode cX8_catches 5 = .ok (.iload 4, 2) := by decide +kernel
theorem dX8_catches_7 : decode cX8_catches 7 = .ok (.aload_n 0, 1) := by decide +kernel
theorem dX8_catches_8 : decode cX8_catches 8 = .ok (.getfield 82, 3) := by decide +kernel
theorem dX8_catches_11 : decode cX8_catches 11 = .ok (.if_icmp .ge 74, 3) := by decide +kernel
theorem dX8_catches_14 : decode cX8_catches 14 = .ok (.iload_n 2, 1) := by decide +kernel
theorem dX8_catches_15 : decode cX8_catches 15 = .ok (.iload 4, 2) := by decide +kernel
theorem dX8_catches_17 : decode cX8_catches 17 = .ok (.ishr, 1) := by decide +kernel
theorem dX8_catches_18 : decode cX8_catches 18 = .ok (.iconst 1, 1) := by decide +kernel
theorem dX8_catches_19 : decode cX8_catches 19 = .ok (.iand, 1) := by decide +kernel
theorem dX8_catches_20 : decode cX8_catches 20 = .ok (.iconst 1, 1) := by decide +kernel
theorem dX8_catches_21 : decode cX8_catches 21 = .ok (.if_icmp .ne 39, 3) := by decide +kernel
theorem dX8_catches_24 : decode cX8_catches 24 = .ok (.aload_n 0, 1) := by decide +kernel
theorem dX8_catches_25 : decode cX8_catches 25 = .ok (.getfield 19, 3) := by decide +kernel
theorem dX8_catches_28 : decode cX8_catches 28 = .ok (.iconst 5, 1) := by decide +kernel
theorem dX8_catches_29 : decode cX8_catches 29 = .ok (.iload 4, 2) := by decide +kernel
theorem dX8_catches_31 : decode cX8_catches 31 = .ok (.imul, 1) := by decide +kernel
theorem dX8_catches_32 : decode cX8_catches 32 = .ok (.iconst 2, 1) := by decide +kernel
theorem dX8_catches_33 : decode cX8_catches 33 = .ok (.iadd, 1) := by decide +kernel
theorem dX8_catches_34 : decode cX8_catches 34 = .ok (.iaload, 1) := by decide +kernel
theorem dX8_catches_35 : decode cX8_catches 35 = .ok (.iload_n 2, 1) := by decide +kernel
theorem dX8_catches_36 : decode cX8_catches 36 = .ok (.iand, 1) := by decide +kernel
theorem dX8_catches_37 : decode cX8_catches 37 = .ok (.iload_n 1, 1) := by decide +kernel
theorem dX8_catches_38 : decode cX8_catches 38 = .ok (.iand, 1) := by decide +kernel
theorem dX8_catches_39 : decode cX8_catches 39 = .ok (.invokestatic 229, 3) := by decide +kernel
theorem dX8_catches_42 : decode cX8_catches 42 = .ok (.aload_n 0, 1) := by decide +kernel
theorem dX8_catches_43 : decode cX8_catches 43 = .ok (.getfield 19, 3) := by decide +kernel
theorem dX8_catches_46 : decode cX8_catches 46 = .ok (.iconst 5, 1) := by decide +kernel
theorem dX8_catches_47 : decode cX8_catches 47 = .ok (.iload 4, 2) := by decide +kernel
theorem dX8_catches_49 : decode cX8_catches 49 = .ok (.imul, 1) := by decide +kernel
theorem dX8_catches_50 : decode cX8_catches 50 = .ok (.iconst 4, 1) := by decide +kernel
theorem dX8_catches_51 : decode cX8_catches 51 = .ok (.iadd, 1) := by decide +kernel
theorem dX8_catches_52 : decode cX8_catches 52 = .ok (.iaload, 1) := by decide +kernel
theorem dX8_catches_53 : decode cX8_catches 53 = .ok (.if_icmp .lt 7, 3) := by decide +kernel
theorem dX8_catches_56 : decode cX8_catches 56 = .ok (.iconst 1, 1) := by decide +kernel
theorem dX8_catches_57 : decode cX8_catches 57 = .ok (.goto 4, 3) := by decide +kernel
theorem dX8_catches_60 : decode cX8_catches 60 = .ok (.iconst 0, 1) := by decide +kernel
theorem dX8_catches_61 : decode cX8_catches 61 = .ok (.istore 5, 2) := by decide +kernel
theorem dX8_catches_63 : decode cX8_catches 63 = .ok (.iload_n 3, 1) := by decide +kernel
theorem dX8_catches_64 : decode cX8_catches 64 = .ok (.iload 5, 2) := by decide +kernel
theorem dX8_catches_66 : decode cX8_catches 66 = .ok (.ifCond .eq 10, 3) := by decide +kernel
theorem dX8_catches_69 : decode cX8_catches 69 = .ok (.iconst 1, 1) := by decide +kernel
theorem dX8_catches_70 : decode cX8_catches 70 = .ok (.iload 4, 2) := by decide +kernel
theorem dX8_catches_72 : decode cX8_catches 72 = .ok (.ishl, 1) := by decide +kernel
theorem dX8_catches_73 : decode cX8_catches 73 = .ok (.goto 4, 3) := by decide +kernel
theorem dX8_catches_76 : decode cX8_catches 76 = .ok (.iconst 0, 1) := by decide +kernel
theorem dX8_catches_77 : decode cX8_catches 77 = .ok (.ior, 1) := by decide +kernel
theorem dX8_catches_78 : decode cX8_catches 78 = .ok (.istore_n 3, 1) := by decide +kernel
theorem dX8_catches_79 : decode cX8_catches 79 = .ok (.iinc 4 1, 3) := by decide +kernel
theorem dX8_catches_82 : decode cX8_catches 82 = .ok (.goto (-77), 3) := by decide +kernel
theorem dX8_catches_85 : decode cX8_catches 85 = .ok (.iload_n 3, 1) := by decide +kernel
theorem dX8_catches_86 : decode cX8_catches 86 = .ok (.ireturn, 1) := by decide +kernel
theorem dX8_atLast_0 : decode cX8_atLast 0 = .ok (.iload_n 1, 1) := by decide +kernel
theorem dX8_atLast_1 : decode cX8_atLast 1 = .ok (.istore_n 3, 1) := by decide +kernel
theorem dX8_atLast_2 : decode cX8_atLast 2 = .ok (.aload_n 0, 1) := by decide +kernel
theorem dX8_atLast_3 : decode cX8_atLast 3 = .ok (.iload_n 3, 1) := by decide +kernel
theorem dX8_atLast_4 : decode cX8_atLast 4 = .ok (.iload_n 2, 1) := by decide +kernel
theorem dX8_atLast_5 : decode cX8_atLast 5 = .ok (.invokevirtual 232, 3) := by decide +kernel
theorem dX8_atLast_8 : decode cX8_atLast 8 = .ok (.istore 4, 2) := by decide +kernel
theorem dX8_atLast_10 : decode cX8_atLast 10 = .ok (.aload_n 0, 1) := by decide +kernel
theorem dX8_atLast_11 : decode cX8_atLast 11 = .ok (.iconst 0, 1) := by decide +kernel
theorem dX8_atLast_12 : decode cX8_atLast 12 = .ok (.putfield 235, 3) := by decide +kernel
theorem dX8_atLast_15 : decode cX8_atLast 15 = .ok (.iload 4, 2) := by decide +kernel
theorem dX8_atLast_17 : decode cX8_atLast 17 = .ok (.iload_n 3, 1) := by decide +kernel
theorem dX8_atLast_18 : decode cX8_atLast 18 = .ok (.if_icmp .eq 27, 3) := by decide +kernel
theorem dX8_atLast_21 : decode cX8_atLast 21 = .ok (.iload 4, 2) := by decide +kernel
theorem dX8_atLast_23 : decode cX8_atLast 23 = .ok (.istore_n 3, 1) := by decide +kernel
theorem dX8_atLast_24 : decode cX8_atLast 24 = .ok (.aload_n 0, 1) := by decide +kernel
theorem dX8_atLast_25 : decode cX8_atLast 25 = .ok (.dup, 1) := by decide +kernel
theorem dX8_atLast_26 : decode cX8_atLast 26 = .ok (.getfield 235, 3) := by decide +kernel
theorem dX8_atLast_29 : decode cX8_atLast 29 = .ok (.iconst 1, 1) := by decide +kernel
theorem dX8_atLast_30 : decode cX8_atLast 30 = .ok (.iadd, 1) := by decide +kernel
theorem dX8_atLast_31 : decode cX8_atLast 31 = .ok (.putfield 235, 3) := by decide +kernel
theorem dX8_atLast_34 : decode cX8_atLast 34 = .ok (.aload_n 0, 1) := by decide +kernel
theorem dX8_atLast_35 : decode cX8_atLast 35 = .ok (.iload_n 3, 1) := by decide +kernel
theorem dX8_atLast_36 : decode cX8_atLast 36 = .ok (.iload_n 2, 1) := by decide +kernel
theorem dX8_atLast_37 : decode cX8_atLast 37 = .ok (.invokevirtual 232, 3) := by decide +kernel
theorem dX8_atLast_40 : decode cX8_atLast 40 = .ok (.istore 4, 2) := by decide +kernel
theorem dX8_atLast_42 : decode cX8_atLast 42 = .ok (.goto (-27), 3) := by decide +kernel
theorem dX8_atLast_45 : decode cX8_atLast 45 = .ok (.iload_n 3, 1) := by decide +kernel
theorem dX8_atLast_46 : decode cX8_atLast 46 = .ok (.ireturn, 1) := by decide +kernel
theorem dX8_caught_0 : decode cX8_caught 0 = .ok (.aload_n 0, 1) := by decide +kernel
theorem dX8_caught_1 : decode cX8_caught 1 = .ok (.iload_n 1, 1) := by decide +kernel
theorem dX8_caught_2 : decode cX8_caught 2 = .ok (.invokevirtual 180, 3) := by decide +kernel
theorem dX8_caught_5 : decode cX8_caught 5 = .ok (.ifCond .eq 13, 3) := by decide +kernel
theorem dX8_caught_8 : decode cX8_caught 8 = .ok (.iload_n 2, 1) := by decide +kernel
theorem dX8_caught_9 : decode cX8_caught 9 = .ok (.iconst 0, 1) := by decide +kernel
theorem dX8_caught_10 : decode cX8_caught 10 = .ok (.bipush 9, 2) := by decide +kernel
theorem dX8_caught_12 : decode cX8_caught 12 = .ok (.invokestatic 78, 3) := by decide +kernel
theorem dX8_caught_15 : decode cX8_caught 15 = .ok (.ifCond .ne 6, 3) := by decide +kernel
theorem dX8_caught_18 : decode cX8_caught 18 = .ok (.bipush (-2), 2) := by decide +kernel
theorem dX8_caught_20 : decode cX8_caught 20 = .ok (.ireturn, 1) := by decide +kernel
theorem dX8_caught_21 : decode cX8_caught 21 = .ok (.iload_n 1, 1) := by decide +kernel
theorem dX8_caught_22 : decode cX8_caught 22 = .ok (.istore_n 3, 1) := by decide +kernel
theorem dX8_caught_23 : decode cX8_caught 23 = .ok (.iconst 0, 1) := by decide +kernel
theorem dX8_caught_24 : decode cX8_caught 24 = .ok (.istore 4, 2) := by decide +kernel
theorem dX8_caught_26 : decode cX8_caught 26 = .ok (.iload 4, 2) := by decide +kernel
theorem dX8_caught_28 : decode cX8_caught 28 = .ok (.iload_n 2, 1) := by decide +kernel
theorem dX8_caught_29 : decode cX8_caught 29 = .ok (.if_icmp .ge 19, 3) := by decide +kernel
theorem dX8_caught_32 : decode cX8_caught 32 = .ok (.aload_n 0, 1) := by decide +kernel
theorem dX8_caught_33 : decode cX8_caught 33 = .ok (.iload_n 3, 1) := by decide +kernel
theorem dX8_caught_34 : decode cX8_caught 34 = .ok (.aload_n 0, 1) := by decide +kernel
theorem dX8_caught_35 : decode cX8_caught 35 = .ok (.invokevirtual 85, 3) := by decide +kernel
theorem dX8_caught_38 : decode cX8_caught 38 = .ok (.invokevirtual 232, 3) := by decide +kernel
theorem dX8_caught_41 : decode cX8_caught 41 = .ok (.istore_n 3, 1) := by decide +kernel
theorem dX8_caught_42 : decode cX8_caught 42 = .ok (.iinc 4 1, 3) := by decide +kernel
theorem dX8_caught_45 : decode cX8_caught 45 = .ok (.goto (-19), 3) := by decide +kernel
theorem dX8_caught_48 : decode cX8_caught 48 = .ok (.iload_n 3, 1) := by decide +kernel
theorem dX8_caught_49 : decode cX8_caught 49 = .ok (.ireturn, 1) := by decide +kernel
theorem dX8_panic_0 : decode cX8_panic 0 = .ok (.aload_n 0, 1) := by decide +kernel
theorem dX8_panic_1 : decode cX8_panic 1 = .ok (.iload_n 1, 1) := by decide +kernel
theorem dX8_panic_2 : decode cX8_panic 2 = .ok (.invokevirtual 180, 3) := by decide +kernel
theorem dX8_panic_5 : decode cX8_panic 5 = .ok (.ifCond .eq 12, 3) := by decide +kernel
theorem dX8_panic_8 : decode cX8_panic 8 = .ok (.iload_n 2, 1) := by decide +kernel
theorem dX8_panic_9 : decode cX8_panic 9 = .ok (.iconst 0, 1) := by decide +kernel
theorem dX8_panic_10 : decode cX8_panic 10 = .ok (.iconst 1, 1) := by decide +kernel
theorem dX8_panic_11 : decode cX8_panic 11 = .ok (.invokestatic 78, 3) := by decide +kernel
theorem dX8_panic_14 : decode cX8_panic 14 = .ok (.ifCond .ne 6, 3) := by decide +kernel
theorem dX8_panic_17 : decode cX8_panic 17 = .ok (.bipush (-2), 2) := by decide +kernel
theorem dX8_panic_19 : decode cX8_panic 19 = .ok (.ireturn, 1) := by decide +kernel
theorem dX8_panic_20 : decode cX8_panic 20 = .ok (.aload_n 0, 1) := by decide +kernel
theorem dX8_panic_21 : decode cX8_panic 21 = .ok (.iload_n 1, 1) := by decide +kernel
theorem dX8_panic_22 : decode cX8_panic 22 = .ok (.aload_n 0, 1) := by decide +kernel
theorem dX8_panic_23 : decode cX8_panic 23 = .ok (.invokevirtual 85, 3) := by decide +kernel
theorem dX8_panic_26 : decode cX8_panic 26 = .ok (.invokevirtual 238, 3) := by decide +kernel
theorem dX8_panic_29 : decode cX8_panic 29 = .ok (.istore_n 3, 1) := by decide +kernel
theorem dX8_panic_30 : decode cX8_panic 30 = .ok (.iload_n 2, 1) := by decide +kernel
theorem dX8_panic_31 : decode cX8_panic 31 = .ok (.ifCond .ne 7, 3) := by decide +kernel
theorem dX8_panic_34 : decode cX8_panic 34 = .ok (.iload_n 3, 1) := by decide +kernel
theorem dX8_panic_35 : decode cX8_panic 35 = .ok (.goto 7, 3) := by decide +kernel
theorem dX8_panic_38 : decode cX8_panic 38 = .ok (.aload_n 0, 1) := by decide +kernel
theorem dX8_panic_39 : decode cX8_panic 39 = .ok (.getfield 235, 3) := by decide +kernel
theorem dX8_panic_42 : decode cX8_panic 42 = .ok (.ireturn, 1) := by decide +kernel
theorem dX8_seeds_0 : decode cX8_seeds 0 = .ok (.iload_n 1, 1) := by decide +kernel
theorem dX8_seeds_1 : decode cX8_seeds 1 = .ok (.iconst 0, 1) := by decide +kernel
theorem dX8_seeds_2 : decode cX8_seeds 2 = .ok (.iconst 1, 1) := by decide +kernel
theorem dX8_seeds_3 : decode cX8_seeds 3 = .ok (.invokestatic 78, 3) := by decide +kernel
theorem dX8_seeds_6 : decode cX8_seeds 6 = .ok (.ifCond .ne 6, 3) := by decide +kernel
theorem dX8_seeds_9 : decode cX8_seeds 9 = .ok (.bipush (-2), 2) := by decide +kernel
theorem dX8_seeds_11 : decode cX8_seeds 11 = .ok (.ireturn, 1) := by decide +kernel
theorem dX8_seeds_12 : decode cX8_seeds 12 = .ok (.iconst (-1), 1) := by decide +kernel
theorem dX8_seeds_13 : decode cX8_seeds 13 = .ok (.istore_n 2, 1) := by decide +kernel
theorem dX8_seeds_14 : decode cX8_seeds 14 = .ok (.iconst 0, 1) := by decide +kernel
theorem dX8_seeds_15 : decode cX8_seeds 15 = .ok (.istore_n 3, 1) := by decide +kernel
theorem dX8_seeds_16 : decode cX8_seeds 16 = .ok (.iload_n 3, 1) := by decide +kernel
theorem dX8_seeds_17 : decode cX8_seeds 17 = .ok (.aload_n 0, 1) := by decide +kernel
theorem dX8_seeds_18 : decode cX8_seeds 18 = .ok (.invokevirtual 85, 3) := by decide +kernel
theorem dX8_seeds_21 : decode cX8_seeds 21 = .ok (.if_icmp .gt 59, 3) := by decide +kernel
theorem dX8_seeds_24 : decode cX8_seeds 24 = .ok (.iload_n 2, 1) := by decide +kernel
theorem dX8_seeds_25 : decode cX8_seeds 25 = .ok (.iconst (-1), 1) := by decide +kernel
theorem dX8_seeds_26 : decode cX8_seeds 26 = .ok (.if_icmp .eq 14, 3) := by decide +kernel
theorem dX8_seeds_29 : decode cX8_seeds 29 = .ok (.iload_n 3, 1) := by decide +kernel
theorem dX8_seeds_30 : decode cX8_seeds 30 = .ok (.invokestatic 229, 3) := by decide +kernel
theorem dX8_seeds_33 : decode cX8_seeds 33 = .ok (.iload_n 2, 1) := by decide +kernel
theorem dX8_seeds_34 : decode cX8_seeds 34 = .ok (.invokestatic 229, 3) := by decide +kernel
theorem dX8_seeds_37 : decode cX8_seeds 37 = .ok (.if_icmp .ge 7, 3) := by decide +kernel
theorem dX8_seeds_40 : decode cX8_seeds 40 = .ok (.iconst 1, 1) := by decide +kernel
theorem dX8_seeds_41 : decode cX8_seeds 41 = .ok (.goto 4, 3) := by decide +kernel
theorem dX8_seeds_44 : decode cX8_seeds 44 = .ok (.iconst 0, 1) := by decide +kernel
theorem dX8_seeds_45 : decode cX8_seeds 45 = .ok (.istore 4, 2) := by decide +kernel
theorem dX8_seeds_47 : decode cX8_seeds 47 = .ok (.iload 4, 2) := by decide +kernel
theorem dX8_seeds_49 : decode cX8_seeds 49 = .ok (.ifCond .eq 23, 3) := by decide +kernel
theorem dX8_seeds_52 : decode cX8_seeds 52 = .ok (.aload_n 0, 1) := by decide +kernel
theorem dX8_seeds_53 : decode cX8_seeds 53 = .ok (.iload_n 3, 1) := by decide +kernel
theorem dX8_seeds_54 : decode cX8_seeds 54 = .ok (.aload_n 0, 1) := by decide +kernel
theorem dX8_seeds_55 : decode cX8_seeds 55 = .ok (.invokevirtual 85, 3) := by decide +kernel
theorem dX8_seeds_58 : decode cX8_seeds 58 = .ok (.invokevirtual 238, 3) := by decide +kernel
theorem dX8_seeds_61 : decode cX8_seeds 61 = .ok (.aload_n 0, 1) := by decide +kernel
theorem dX8_seeds_62 : decode cX8_seeds 62 = .ok (.invokevirtual 85, 3) := by decide +kernel
theorem dX8_seeds_65 : decode cX8_seeds 65 = .ok (.if_icmp .ne 7, 3) := by decide +kernel
theorem dX8_seeds_68 : decode cX8_seeds 68 = .ok (.iload_n 3, 1) := by decide +kernel
theorem dX8_seeds_69 : decode cX8_seeds 69 = .ok (.goto 4, 3) := by decide +kernel
theorem dX8_seeds_72 : decode cX8_seeds 72 = .ok (.iload_n 2, 1) := by decide +kernel
theorem dX8_seeds_73 : decode cX8_seeds 73 = .ok (.istore_n 2, 1) := by decide +kernel
theorem dX8_seeds_74 : decode cX8_seeds 74 = .ok (.iinc 3 1, 3) := by decide +kernel
theorem dX8_seeds_77 : decode cX8_seeds 77 = .ok (.goto (-61), 3) := by decide +kernel
theorem dX8_seeds_80 : decode cX8_seeds 80 = .ok (.iload_n 1, 1) := by decide +kernel
theorem dX8_seeds_81 : decode cX8_seeds 81 = .ok (.ifCond .ne 7, 3) := by decide +kernel
theorem dX8_seeds_84 : decode cX8_seeds 84 = .ok (.iload_n 2, 1) := by decide +kernel
theorem dX8_seeds_85 : decode cX8_seeds 85 = .ok (.goto 7, 3) := by decide +kernel
theorem dX8_seeds_88 : decode cX8_seeds 88 = .ok (.iload_n 2, 1) := by decide +kernel
theorem dX8_seeds_89 : decode cX8_seeds 89 = .ok (.invokestatic 229, 3) := by decide +kernel
theorem dX8_seeds_92 : decode cX8_seeds 92 = .ok (.ireturn, 1) := by decide +kernel
theorem dX8_stop_0 : decode cX8_stop 0 = .ok (.aload_n 0, 1) := by decide +kernel
theorem dX8_stop_1 : decode cX8_stop 1 = .ok (.iload_n 1, 1) := by decide +kernel
theorem dX8_stop_2 : decode cX8_stop 2 = .ok (.invokevirtual 180, 3) := by decide +kernel
theorem dX8_stop_5 : decode cX8_stop 5 = .ok (.ifCond .eq 13, 3) := by decide +kernel
theorem dX8_stop_8 : decode cX8_stop 8 = .ok (.iload_n 2, 1) := by decide +kernel
theorem dX8_stop_9 : decode cX8_stop 9 = .ok (.iconst 0, 1) := by decide +kernel
theorem dX8_stop_10 : decode cX8_stop 10 = .ok (.bipush 6, 2) := by decide +kernel
theorem dX8_stop_12 : decode cX8_stop 12 = .ok (.invokestatic 78, 3) := by decide +kernel
theorem dX8_stop_15 : decode cX8_stop 15 = .ok (.ifCond .ne 6, 3) := by decide +kernel
theorem dX8_stop_18 : decode cX8_stop 18 = .ok (.bipush (-2), 2) := by decide +kernel
theorem dX8_stop_20 : decode cX8_stop 20 = .ok (.ireturn, 1) := by decide +kernel
theorem dX8_stop_21 : decode cX8_stop 21 = .ok (.iconst (-1), 1) := by decide +kernel
theorem dX8_stop_22 : decode cX8_stop 22 = .ok (.istore_n 3, 1) := by decide +kernel
theorem dX8_stop_23 : decode cX8_stop 23 = .ok (.iconst 0, 1) := by decide +kernel
theorem dX8_stop_24 : decode cX8_stop 24 = .ok (.istore 4, 2) := by decide +kernel
theorem dX8_stop_26 : decode cX8_stop 26 = .ok (.iload 4, 2) := by decide +kernel
theorem dX8_stop_28 : decode cX8_stop 28 = .ok (.aload_n 0, 1) := by decide +kernel
theorem dX8_stop_29 : decode cX8_stop 29 = .ok (.invokevirtual 85, 3) := by decide +kernel
theorem dX8_stop_32 : decode cX8_stop 32 = .ok (.if_icmp .gt 73, 3) := by decide +kernel
theorem dX8_stop_35 : decode cX8_stop 35 = .ok (.iload 4, 2) := by decide +kernel
theorem dX8_stop_37 : decode cX8_stop 37 = .ok (.iload_n 1, 1) := by decide +kernel
theorem dX8_stop_38 : decode cX8_stop 38 = .ok (.iand, 1) := by decide +kernel
theorem dX8_stop_39 : decode cX8_stop 39 = .ok (.ifCond .ne 24, 3) := by decide +kernel
theorem dX8_stop_42 : decode cX8_stop 42 = .ok (.iload_n 3, 1) := by decide +kernel
theorem dX8_stop_43 : decode cX8_stop 43 = .ok (.iconst (-1), 1) := by decide +kernel
theorem dX8_stop_44 : decode cX8_stop 44 = .ok (.if_icmp .eq 15, 3) := by decide +kernel
theorem dX8_stop_47 : decode cX8_stop 47 = .ok (.iload 4, 2) := by decide +kernel
theorem dX8_stop_49 : decode cX8_stop 49 = .ok (.invokestatic 229, 3) := by decide +kernel
theorem dX8_stop_52 : decode cX8_stop 52 = .ok (.iload_n 3, 1) := by decide +kernel
theorem dX8_stop_53 : decode cX8_stop 53 = .ok (.invokestatic 229, 3) := by decide +kernel
theorem dX8_stop_56 : decode cX8_stop 56 = .ok (.if_icmp .ge 7, 3) := by decide +kernel
theorem dX8_stop_59 : decode cX8_stop 59 = .ok (.iconst 1, 1) := by decide +kernel
theorem dX8_stop_60 : decode cX8_stop 60 = .ok (.goto 4, 3) := by decide +kernel
theorem dX8_stop_63 : decode cX8_stop 63 = .ok (.iconst 0, 1) := by decide +kernel
theorem dX8_stop_64 : decode cX8_stop 64 = .ok (.istore 5, 2) := by decide +kernel
theorem dX8_stop_66 : decode cX8_stop 66 = .ok (.iload 5, 2) := by decide +kernel
theorem dX8_stop_68 : decode cX8_stop 68 = .ok (.ifCond .eq 29, 3) := by decide +kernel
theorem dX8_stop_71 : decode cX8_stop 71 = .ok (.aload_n 0, 1) := by decide +kernel
theorem dX8_stop_72 : decode cX8_stop 72 = .ok (.iload_n 1, 1) := by decide +kernel
theorem dX8_stop_73 : decode cX8_stop 73 = .ok (.aload_n 0, 1) := by decide +kernel
theorem dX8_stop_74 : decode cX8_stop 74 = .ok (.invokevirtual 85, 3) := by decide +kernel
theorem dX8_stop_77 : decode cX8_stop 77 = .ok (.iload 4, 2) := by decide +kernel
theorem dX8_stop_79 : decode cX8_stop 79 = .ok (.iconst (-1), 1) := by decide +kernel
theorem dX8_stop_80 : decode cX8_stop 80 = .ok (.ixor, 1) := by decide +kernel
theorem dX8_stop_81 : decode cX8_stop 81 = .ok (.iand, 1) := by decide +kernel
theorem dX8_stop_82 : decode cX8_stop 82 = .ok (.invokevirtual 238, 3) := by decide +kernel
theorem dX8_stop_85 : decode cX8_stop 85 = .ok (.invokestatic 229, 3) := by decide +kernel
theorem dX8_stop_88 : decode cX8_stop 88 = .ok (.iload_n 2, 1) := by decide +kernel
theorem dX8_stop_89 : decode cX8_stop 89 = .ok (.if_icmp .gt 8, 3) := by decide +kernel
theorem dX8_stop_92 : decode cX8_stop 92 = .ok (.iload 4, 2) := by decide +kernel
theorem dX8_stop_94 : decode cX8_stop 94 = .ok (.goto 4, 3) := by decide +kernel
theorem dX8_stop_97 : decode cX8_stop 97 = .ok (.iload_n 3, 1) := by decide +kernel
theorem dX8_stop_98 : decode cX8_stop 98 = .ok (.istore_n 3, 1) := by decide +kernel
theorem dX8_stop_99 : decode cX8_stop 99 = .ok (.iinc 4 1, 3) := by decide +kernel
theorem dX8_stop_102 : decode cX8_stop 102 = .ok (.goto (-76), 3) := by decide +kernel
theorem dX8_stop_105 : decode cX8_stop 105 = .ok (.iload_n 3, 1) := by decide +kernel
theorem dX8_stop_106 : decode cX8_stop 106 = .ok (.ireturn, 1) := by decide +kernel
theorem dX8_goesOn_0 : decode cX8_goesOn 0 = .ok (.iload_n 2, 1) := by decide +kernel
theorem dX8_goesOn_1 : decode cX8_goesOn 1 = .ok (.istore 4, 2) := by decide +kernel
theorem dX8_goesOn_3 : decode cX8_goesOn 3 = .ok (.iconst 0, 1) := by decide +kernel
theorem dX8_goesOn_4 : decode cX8_goesOn 4 = .ok (.istore 5, 2) := by decide +kernel
theorem dX8_goesOn_6 : decode cX8_goesOn 6 = .ok (.iload 5, 2) := by decide +kernel
theorem dX8_goesOn_8 : decode cX8_goesOn 8 = .ok (.iload_n 3, 1) := by decide +kernel
theorem dX8_goesOn_9 : decode cX8_goesOn 9 = .ok (.if_icmp .ge 146, 3) := by decide +kernel
theorem dX8_goesOn_12 : decode cX8_goesOn 12 = .ok (.iload 4, 2) := by decide +kernel
theorem dX8_goesOn_14 : decode cX8_goesOn 14 = .ok (.istore 6, 2) := by decide +kernel
theorem dX8_goesOn_16 : decode cX8_goesOn 16 = .ok (.iconst 0, 1) := by decide +kernel
theorem dX8_goesOn_17 : decode cX8_goesOn 17 = .ok (.istore 7, 2) := by decide +kernel
theorem dX8_goesOn_19 : decode cX8_goesOn 19 = .ok (.iload 7, 2) := by decide +kernel
theorem dX8_goesOn_21 : decode cX8_goesOn 21 = .ok (.aload_n 0, 1) := by decide +kernel
theorem dX8_goesOn_22 : decode cX8_goesOn 22 = .ok (.getfield 82, 3) := by decide +kernel
theorem dX8_goesOn_25 : decode cX8_goesOn 25 = .ok (.if_icmp .ge 124, 3) := by decide +kernel
theorem dX8_goesOn_28 : decode cX8_goesOn 28 = .ok (.iload 6, 2) := by decide +kernel
theorem dX8_goesOn_30 : decode cX8_goesOn 30 = .ok (.iload 7, 2) := by decide +kernel
theorem dX8_goesOn_32 : decode cX8_goesOn 32 = .ok (.ishr, 1) := by decide +kernel
theorem dX8_goesOn_33 : decode cX8_goesOn 33 = .ok (.iconst 1, 1) := by decide +kernel
theorem dX8_goesOn_34 : decode cX8_goesOn 34 = .ok (.iand, 1) := by decide +kernel
theorem dX8_goesOn_35 : decode cX8_goesOn 35 = .ok (.iconst 1, 1) := by decide +kernel
theorem dX8_goesOn_36 : decode cX8_goesOn 36 = .ok (.if_icmp .ne 11, 3) := by decide +kernel
theorem dX8_goesOn_39 : decode cX8_goesOn 39 = .ok (.aload_n 0, 1) := by decide +kernel
theorem dX8_goesOn_40 : decode cX8_goesOn 40 = .ok (.iload_n 1, 1) := by decide +kernel
theorem dX8_goesOn_41 : decode cX8_goesOn 41 = .ok (.invokevirtual 177, 3) := by decide +kernel
theorem dX8_goesOn_44 : decode cX8_goesOn 44 = .ok (.goto 4, 3) := by decide +kernel
theorem dX8_goesOn_47 : decode cX8_goesOn 47 = .ok (.iconst 0, 1) := by decide +kernel
theorem dX8_goesOn_48 : decode cX8_goesOn 48 = .ok (.istore 8, 2) := by decide +kernel
theorem dX8_goesOn_50 : decode cX8_goesOn 50 = .ok (.iconst 0, 1) := by decide +kernel
theorem dX8_goesOn_51 : decode cX8_goesOn 51 = .ok (.istore 9, 2) := by decide +kernel
theorem dX8_goesOn_53 : decode cX8_goesOn 53 = .ok (.iload 9, 2) := by decide +kernel
theorem dX8_goesOn_55 : decode cX8_goesOn 55 = .ok (.aload_n 0, 1) := by decide +kernel
theorem dX8_goesOn_56 : decode cX8_goesOn 56 = .ok (.getfield 82, 3) := by decide +kernel
theorem dX8_goesOn_59 : decode cX8_goesOn 59 = .ok (.if_icmp .ge 84, 3) := by decide +kernel
theorem dX8_goesOn_62 : decode cX8_goesOn 62 = .ok (.iload 8, 2) := by decide +kernel
theorem dX8_goesOn_64 : decode cX8_goesOn 64 = .ok (.ifCond .le 37, 3) := by decide +kernel
theorem dX8_goesOn_67 : decode cX8_goesOn 67 = .ok (.aload_n 0, 1) := by decide +kernel
theorem dX8_goesOn_68 : decode cX8_goesOn 68 = .ok (.getfield 19, 3) := by decide +kernel
theorem dX8_goesOn_71 : decode cX8_goesOn 71 = .ok (.iconst 5, 1) := by decide +kernel
theorem dX8_goesOn_72 : decode cX8_goesOn 72 = .ok (.iload 7, 2) := by decide +kernel
theorem dX8_goesOn_74 : decode cX8_goesOn 74 = .ok (.imul, 1) := by decide +kernel
theorem dX8_goesOn_75 : decode cX8_goesOn 75 = .ok (.iconst 2, 1) := by decide +kernel
theorem dX8_goesOn_76 : decode cX8_goesOn 76 = .ok (.iadd, 1) := by decide +kernel
theorem dX8_goesOn_77 : decode cX8_goesOn 77 = .ok (.iaload, 1) := by decide +kernel
theorem dX8_goesOn_78 : decode cX8_goesOn 78 = .ok (.iload 9, 2) := by decide +kernel
theorem dX8_goesOn_80 : decode cX8_goesOn 80 = .ok (.ishr, 1) := by decide +kernel
theorem dX8_goesOn_81 : decode cX8_goesOn 81 = .ok (.iconst 1, 1) := by decide +kernel
theorem dX8_goesOn_82 : decode cX8_goesOn 82 = .ok (.iand, 1) := by decide +kernel
theorem dX8_goesOn_83 : decode cX8_goesOn 83 = .ok (.iconst 1, 1) := by decide +kernel
theorem dX8_goesOn_84 : decode cX8_goesOn 84 = .ok (.if_icmp .ne 17, 3) := by decide +kernel
theorem dX8_goesOn_87 : decode cX8_goesOn 87 = .ok (.iload 4, 2) := by decide +kernel
theorem dX8_goesOn_89 : decode cX8_goesOn 89 = .ok (.iload 9, 2) := by decide +kernel
theorem dX8_goesOn_91 : decode cX8_goesOn 91 = .ok (.ishr, 1) := by decide +kernel
theorem dX8_goesOn_92 : decode cX8_goesOn 92 = .ok (.iconst 1, 1) := by decide +kernel
theorem dX8_goesOn_93 : decode cX8_goesOn 93 = .ok (.iand, 1) := by decide +kernel
theorem dX8_goesOn_94 : decode cX8_goesOn 94 = .ok (.ifCond .ne 7, 3) := by decide +kernel
theorem dX8_goesOn_97 : decode cX8_goesOn 97 = .ok (.iconst 1, 1) := by decide +kernel
theorem dX8_goesOn_98 : decode cX8_goesOn 98 = .ok (.goto 4, 3) := by decide +kernel
theorem dX8_goesOn_101 : decode cX8_goesOn 101 = .ok (.iconst 0, 1) := by decide +kernel
theorem dX8_goesOn_102 : decode cX8_goesOn 102 = .ok (.istore 10, 2) := by decide +kernel
theorem dX8_goesOn_104 : decode cX8_goesOn 104 = .ok (.iload 4, 2) := by decide +kernel
theorem dX8_goesOn_106 : decode cX8_goesOn 106 = .ok (.iload 10, 2) := by decide +kernel
theorem dX8_goesOn_108 : decode cX8_goesOn 108 = .ok (.ifCond .eq 10, 3) := by decide +kernel
theorem dX8_goesOn_111 : decode cX8_goesOn 111 = .ok (.iconst 1, 1) := by decide +kernel
theorem dX8_goesOn_112 : decode cX8_goesOn 112 = .ok (.iload 9, 2) := by decide +kernel
theorem dX8_goesOn_114 : decode cX8_goesOn 114 = .ok (.ishl, 1) := by decide +kernel
theorem dX8_goesOn_115 : decode cX8_goesOn 115 = .ok (.goto 4, 3) := by decide +kernel
theorem dX8_goesOn_118 : decode cX8_goesOn 118 = .ok (.iconst 0, 1) := by decide +kernel
theorem dX8_goesOn_119 : decode cX8_goesOn 119 = .ok (.ior, 1) := by decide +kernel
theorem dX8_goesOn_120 : decode cX8_goesOn 120 = .ok (.istore 4, 2) := by decide +kernel
theorem dX8_goesOn_122 : decode cX8_goesOn 122 = .ok (.iload 8, 2) := by decide +kernel
theorem dX8_goesOn_124 : decode cX8_goesOn 124 = .ok (.iload 10, 2) := by decide +kernel
theorem dX8_goesOn_126 : decode cX8_goesOn 126 = .ok (.ifCond .eq 7, 3) := by decide +kernel
theorem dX8_goesOn_129 : decode cX8_goesOn 129 = .ok (.iconst 1, 1) := by decide +kernel
theorem dX8_goesOn_130 : decode cX8_goesOn 130 = .ok (.goto 4, 3) := by decide +kernel
theorem dX8_goesOn_133 : decode cX8_goesOn 133 = .ok (.iconst 0, 1) := by decide +kernel
theorem dX8_goesOn_134 : decode cX8_goesOn 134 = .ok (.isub, 1) := by decide +kernel
theorem dX8_goesOn_135 : decode cX8_goesOn 135 = .ok (.istore 8, 2) := by decide +kernel
theorem dX8_goesOn_137 : decode cX8_goesOn 137 = .ok (.iinc 9 1, 3) := by decide +kernel
theorem dX8_goesOn_140 : decode cX8_goesOn 140 = .ok (.goto (-87), 3) := by decide +kernel
theorem dX8_goesOn_143 : decode cX8_goesOn 143 = .ok (.iinc 7 1, 3) := by decide +kernel
theorem dX8_goesOn_146 : decode cX8_goesOn 146 = .ok (.goto (-127), 3) := by decide +kernel
theorem dX8_goesOn_149 : decode cX8_goesOn 149 = .ok (.iinc 5 1, 3) := by decide +kernel
theorem dX8_goesOn_152 : decode cX8_goesOn 152 = .ok (.goto (-146), 3) := by decide +kernel
theorem dX8_goesOn_155 : decode cX8_goesOn 155 = .ok (.iload 4, 2) := by decide +kernel
theorem dX8_goesOn_157 : decode cX8_goesOn 157 = .ok (.ireturn, 1) := by decide +kernel
theorem dX8_spread_0 : decode cX8_spread 0 = .ok (.aload_n 0, 1) := by decide +kernel
theorem dX8_spread_1 : decode cX8_spread 1 = .ok (.iload_n 1, 1) := by decide +kernel
theorem dX8_spread_2 : decode cX8_spread 2 = .ok (.invokevirtual 174, 3) := by decide +kernel
theorem dX8_spread_5 : decode cX8_spread 5 = .ok (.ifCond .ne 6, 3) := by decide +kernel
theorem dX8_spread_8 : decode cX8_spread 8 = .ok (.bipush (-5), 2) := by decide +kernel
theorem dX8_spread_10 : decode cX8_spread 10 = .ok (.ireturn, 1) := by decide +kernel
theorem dX8_spread_11 : decode cX8_spread 11 = .ok (.aload_n 0, 1) := by decide +kernel
theorem dX8_spread_12 : decode cX8_spread 12 = .ok (.iload_n 2, 1) := by decide +kernel
theorem dX8_spread_13 : decode cX8_spread 13 = .ok (.invokevirtual 180, 3) := by decide +kernel
theorem dX8_spread_16 : decode cX8_spread 16 = .ok (.ifCond .eq 23, 3) := by decide +kernel
theorem dX8_spread_19 : decode cX8_spread 19 = .ok (.iload_n 3, 1) := by decide +kernel
theorem dX8_spread_20 : decode cX8_spread 20 = .ok (.iconst 0, 1) := by decide +kernel
theorem dX8_spread_21 : decode cX8_spread 21 = .ok (.bipush 20, 2) := by decide +kernel
theorem dX8_spread_23 : decode cX8_spread 23 = .ok (.invokestatic 78, 3) := by decide +kernel
theorem dX8_spread_26 : decode cX8_spread 26 = .ok (.ifCond .eq 13, 3) := by decide +kernel
theorem dX8_spread_29 : decode cX8_spread 29 = .ok (.aload_n 0, 1) := by decide +kernel
theorem dX8_spread_30 : decode cX8_spread 30 = .ok (.iload_n 1, 1) := by decide +kernel
theorem dX8_spread_31 : decode cX8_spread 31 = .ok (.iload_n 2, 1) := by decide +kernel
theorem dX8_spread_32 : decode cX8_spread 32 = .ok (.iload_n 3, 1) := by decide +kernel
theorem dX8_spread_33 : decode cX8_spread 33 = .ok (.invokevirtual 241, 3) := by decide +kernel
theorem dX8_spread_36 : decode cX8_spread 36 = .ok (.goto 5, 3) := by decide +kernel
theorem dX8_spread_39 : decode cX8_spread 39 = .ok (.bipush (-7), 2) := by decide +kernel
theorem dX8_spread_41 : decode cX8_spread 41 = .ok (.ireturn, 1) := by decide +kernel
theorem dX8_through_0 : decode cX8_through 0 = .ok (.aload_n 0, 1) := by decide +kernel
theorem dX8_through_1 : decode cX8_through 1 = .ok (.iload_n 1, 1) := by decide +kernel
theorem dX8_through_2 : decode cX8_through 2 = .ok (.invokevirtual 174, 3) := by decide +kernel
theorem dX8_through_5 : decode cX8_through 5 = .ok (.ifCond .ne 6, 3) := by decide +kernel
theorem dX8_through_8 : decode cX8_through 8 = .ok (.bipush (-5), 2) := by decide +kernel
theorem dX8_through_10 : decode cX8_through 10 = .ok (.ireturn, 1) := by decide +kernel
theorem dX8_through_11 : decode cX8_through 11 = .ok (.aload_n 0, 1) := by decide +kernel
theorem dX8_through_12 : decode cX8_through 12 = .ok (.iload_n 2, 1) := by decide +kernel
theorem dX8_through_13 : decode cX8_through 13 = .ok (.invokevirtual 167, 3) := by decide +kernel
theorem dX8_through_16 : decode cX8_through 16 = .ok (.ifCond .ne 6, 3) := by decide +kernel
theorem dX8_through_19 : decode cX8_through 19 = .ok (.bipush (-6), 2) := by decide +kernel
theorem dX8_through_21 : decode cX8_through 21 = .ok (.ireturn, 1) := by decide +kernel
theorem dX8_through_22 : decode cX8_through 22 = .ok (.iconst 0, 1) := by decide +kernel
theorem dX8_through_23 : decode cX8_through 23 = .ok (.istore_n 3, 1) := by decide +kernel
theorem dX8_through_24 : decode cX8_through 24 = .ok (.iload_n 3, 1) := by decide +kernel
theorem dX8_through_25 : decode cX8_through 25 = .ok (.bipush 6, 2) := by decide +kernel
theorem dX8_through_27 : decode cX8_through 27 = .ok (.if_icmp .gt 27, 3) := by decide +kernel
theorem dX8_through_30 : decode cX8_through 30 = .ok (.aload_n 0, 1) := by decide +kernel
theorem dX8_through_31 : decode cX8_through 31 = .ok (.iload_n 1, 1) := by decide +kernel
theorem dX8_through_32 : decode cX8_through 32 = .ok (.iconst 1, 1) := by decide +kernel
theorem dX8_through_33 : decode cX8_through 33 = .ok (.iload_n 2, 1) := by decide +kernel
theorem dX8_through_34 : decode cX8_through 34 = .ok (.ishl, 1) := by decide +kernel
theorem dX8_through_35 : decode cX8_through 35 = .ok (.iload_n 3, 1) := by decide +kernel
theorem dX8_through_36 : decode cX8_through 36 = .ok (.invokevirtual 241, 3) := by decide +kernel
theorem dX8_through_39 : decode cX8_through 39 = .ok (.aload_n 0, 1) := by decide +kernel
theorem dX8_through_40 : decode cX8_through 40 = .ok (.invokevirtual 85, 3) := by decide +kernel
theorem dX8_through_43 : decode cX8_through 43 = .ok (.if_icmp .ne 5, 3) := by decide +kernel
theorem dX8_through_46 : decode cX8_through 46 = .ok (.iload_n 3, 1) := by decide +kernel
theorem dX8_through_47 : decode cX8_through 47 = .ok (.ireturn, 1) := by decide +kernel
theorem dX8_through_48 : decode cX8_through 48 = .ok (.iinc 3 1, 3) := by decide +kernel
theorem dX8_through_51 : decode cX8_through 51 = .ok (.goto (-27), 3) := by decide +kernel
theorem dX8_through_54 : decode cX8_through 54 = .ok (.iconst (-1), 1) := by decide +kernel
theorem dX8_through_55 : decode cX8_through 55 = .ok (.ireturn, 1) := by decide +kernel
theorem dX8_origin_0 : decode cX8_origin 0 = .ok (.aload_n 0, 1) := by decide +kernel
theorem dX8_origin_1 : decode cX8_origin 1 = .ok (.iload_n 1, 1) := by decide +kernel
theorem dX8_origin_2 : decode cX8_origin 2 = .ok (.invokevirtual 174, 3) := by decide +kernel
theorem dX8_origin_5 : decode cX8_origin 5 = .ok (.ifCond .ne 6, 3) := by decide +kernel
theorem dX8_origin_8 : decode cX8_origin 8 = .ok (.bipush (-5), 2) := by decide +kernel
theorem dX8_origin_10 : decode cX8_origin 10 = .ok (.ireturn, 1) := by decide +kernel
theorem dX8_origin_11 : decode cX8_origin 11 = .ok (.aload_n 0, 1) := by decide +kernel
theorem dX8_origin_12 : decode cX8_origin 12 = .ok (.iload_n 2, 1) := by decide +kernel
theorem dX8_origin_13 : decode cX8_origin 13 = .ok (.invokevirtual 180, 3) := by decide +kernel
theorem dX8_origin_16 : decode cX8_origin 16 = .ok (.ifCond .eq 13, 3) := by decide +kernel
theorem dX8_origin_19 : decode cX8_origin 19 = .ok (.iload_n 3, 1) := by decide +kernel
theorem dX8_origin_20 : decode cX8_origin 20 = .ok (.iconst 0, 1) := by decide +kernel
theorem dX8_origin_21 : decode cX8_origin 21 = .ok (.bipush 20, 2) := by decide +kernel
theorem dX8_origin_23 : decode cX8_origin 23 = .ok (.invokestatic 78, 3) := by decide +kernel
theorem dX8_origin_26 : decode cX8_origin 26 = .ok (.ifCond .ne 6, 3) := by decide +kernel
theorem dX8_origin_29 : decode cX8_origin 29 = .ok (.bipush (-7), 2) := by decide +kernel
theorem dX8_origin_31 : decode cX8_origin 31 = .ok (.ireturn, 1) := by decide +kernel
theorem dX8_origin_32 : decode cX8_origin 32 = .ok (.iconst 0, 1) := by decide +kernel
theorem dX8_origin_33 : decode cX8_origin 33 = .ok (.istore 4, 2) := by decide +kernel
theorem dX8_origin_35 : decode cX8_origin 35 = .ok (.iconst 0, 1) := by decide +kernel
theorem dX8_origin_36 : decode cX8_origin 36 = .ok (.istore 5, 2) := by decide +kernel
theorem dX8_origin_38 : decode cX8_origin 38 = .ok (.iload 5, 2) := by decide +kernel
theorem dX8_origin_40 : decode cX8_origin 40 = .ok (.aload_n 0, 1) := by decide +kernel
theorem dX8_origin_41 : decode cX8_origin 41 = .ok (.getfield 82, 3) := by decide +kernel
theorem dX8_origin_44 : decode cX8_origin 44 = .ok (.if_icmp .ge 36, 3) := by decide +kernel
theorem dX8_origin_47 : decode cX8_origin 47 = .ok (.iload 4, 2) := by decide +kernel
theorem dX8_origin_49 : decode cX8_origin 49 = .ok (.aload_n 0, 1) := by decide +kernel
theorem dX8_origin_50 : decode cX8_origin 50 = .ok (.iload_n 1, 1) := by decide +kernel
theorem dX8_origin_51 : decode cX8_origin 51 = .ok (.iconst 1, 1) := by decide +kernel
theorem dX8_origin_52 : decode cX8_origin 52 = .ok (.iload 5, 2) := by decide +kernel
theorem dX8_origin_54 : decode cX8_origin 54 = .ok (.ishl, 1) := by decide +kernel
theorem dX8_origin_55 : decode cX8_origin 55 = .ok (.iload_n 3, 1) := by decide +kernel
theorem dX8_origin_56 : decode cX8_origin 56 = .ok (.invokevirtual 241, 3) := by decide +kernel
theorem dX8_origin_59 : decode cX8_origin 59 = .ok (.iload_n 2, 1) := by decide +kernel
theorem dX8_origin_60 : decode cX8_origin 60 = .ok (.if_icmp .ne 10, 3) := by decide +kernel
theorem dX8_origin_63 : decode cX8_origin 63 = .ok (.iconst 1, 1) := by decide +kernel
theorem dX8_origin_64 : decode cX8_origin 64 = .ok (.iload 5, 2) := by decide +kernel
theorem dX8_origin_66 : decode cX8_origin 66 = .ok (.ishl, 1) := by decide +kernel
theorem dX8_origin_67 : decode cX8_origin 67 = .ok (.goto 4, 3) := by decide +kernel
theorem dX8_origin_70 : decode cX8_origin 70 = .ok (.iconst 0, 1) := by decide +kernel
theorem dX8_origin_71 : decode cX8_origin 71 = .ok (.ior, 1) := by decide +kernel
theorem dX8_origin_72 : decode cX8_origin 72 = .ok (.istore 4, 2) := by decide +kernel
theorem dX8_origin_74 : decode cX8_origin 74 = .ok (.iinc 5 1, 3) := by decide +kernel
theorem dX8_origin_77 : decode cX8_origin 77 = .ok (.goto (-39), 3) := by decide +kernel
theorem dX8_origin_80 : decode cX8_origin 80 = .ok (.iload 4, 2) := by decide +kernel
theorem dX8_origin_82 : decode cX8_origin 82 = .ok (.ireturn, 1) := by decide +kernel
theorem dX8_furthest_0 : decode cX8_furthest 0 = .ok (.aload_n 0, 1) := by decide +kernel
theorem dX8_furthest_1 : decode cX8_furthest 1 = .ok (.iload_n 1, 1) := by decide +kernel
theorem dX8_furthest_2 : decode cX8_furthest 2 = .ok (.invokevirtual 174, 3) := by decide +kernel
theorem dX8_furthest_5 : decode cX8_furthest 5 = .ok (.ifCond .ne 6, 3) := by decide +kernel
theorem dX8_furthest_8 : decode cX8_furthest 8 = .ok (.bipush (-5), 2) := by decide +kernel
theorem dX8_furthest_10 : decode cX8_furthest 10 = .ok (.ireturn, 1) := by decide +kernel
theorem dX8_furthest_11 : decode cX8_furthest 11 = .ok (.iload_n 2, 1) := by decide +kernel
theorem dX8_furthest_12 : decode cX8_furthest 12 = .ok (.iconst 0, 1) := by decide +kernel
theorem dX8_furthest_13 : decode cX8_furthest 13 = .ok (.bipush 20, 2) := by decide +kernel
theorem dX8_furthest_15 : decode cX8_furthest 15 = .ok (.invokestatic 78, 3) := by decide +kernel
theorem dX8_furthest_18 : decode cX8_furthest 18 = .ok (.ifCond .eq 12, 3) := by decide +kernel
theorem dX8_furthest_21 : decode cX8_furthest 21 = .ok (.iload_n 3, 1) := by decide +kernel
theorem dX8_furthest_22 : decode cX8_furthest 22 = .ok (.iconst 0, 1) := by decide +kernel
theorem dX8_furthest_23 : decode cX8_furthest 23 = .ok (.iconst 1, 1) := by decide +kernel
theorem dX8_furthest_24 : decode cX8_furthest 24 = .ok (.invokestatic 78, 3) := by decide +kernel
theorem dX8_furthest_27 : decode cX8_furthest 27 = .ok (.ifCond .ne 6, 3) := by decide +kernel
theorem dX8_furthest_30 : decode cX8_furthest 30 = .ok (.bipush (-7), 2) := by decide +kernel
theorem dX8_furthest_32 : decode cX8_furthest 32 = .ok (.ireturn, 1) := by decide +kernel
theorem dX8_furthest_33 : decode cX8_furthest 33 = .ok (.iconst (-1), 1) := by decide +kernel
theorem dX8_furthest_34 : decode cX8_furthest 34 = .ok (.istore 4, 2) := by decide +kernel
theorem dX8_furthest_36 : decode cX8_furthest 36 = .ok (.iconst (-1), 1) := by decide +kernel
theorem dX8_furthest_37 : decode cX8_furthest 37 = .ok (.istore 5, 2) := by decide +kernel
theorem dX8_furthest_39 : decode cX8_furthest 39 = .ok (.iconst 0, 1) := by decide +kernel
theorem dX8_furthest_40 : decode cX8_furthest 40 = .ok (.istore 6, 2) := by decide +kernel
theorem dX8_furthest_42 : decode cX8_furthest 42 = .ok (.iload 6, 2) := by decide +kernel
theorem dX8_furthest_44 : decode cX8_furthest 44 = .ok (.aload_n 0, 1) := by decide +kernel
theorem dX8_furthest_45 : decode cX8_furthest 45 = .ok (.getfield 82, 3) := by decide +kernel
theorem dX8_furthest_48 : decode cX8_furthest 48 = .ok (.if_icmp .ge 56, 3) := by decide +kernel
theorem dX8_furthest_51 : decode cX8_furthest 51 = .ok (.aload_n 0, 1) := by decide +kernel
theorem dX8_furthest_52 : decode cX8_furthest 52 = .ok (.iload_n 1, 1) := by decide +kernel
theorem dX8_furthest_53 : decode cX8_furthest 53 = .ok (.iconst 1, 1) := by decide +kernel
theorem dX8_furthest_54 : decode cX8_furthest 54 = .ok (.iload 6, 2) := by decide +kernel
theorem dX8_furthest_56 : decode cX8_furthest 56 = .ok (.ishl, 1) := by decide +kernel
theorem dX8_furthest_57 : decode cX8_furthest 57 = .ok (.iload_n 2, 1) := by decide +kernel
theorem dX8_furthest_58 : decode cX8_furthest 58 = .ok (.invokevirtual 241, 3) := by decide +kernel
theorem dX8_furthest_61 : decode cX8_furthest 61 = .ok (.invokestatic 229, 3) := by decide +kernel
theorem dX8_furthest_64 : decode cX8_furthest 64 = .ok (.istore 7, 2) := by decide +kernel
theorem dX8_furthest_66 : decode cX8_furthest 66 = .ok (.iload 7, 2) := by decide +kernel
theorem dX8_furthest_68 : decode cX8_furthest 68 = .ok (.iload 5, 2) := by decide +kernel
theorem dX8_furthest_70 : decode cX8_furthest 70 = .ok (.if_icmp .le 8, 3) := by decide +kernel
theorem dX8_furthest_73 : decode cX8_furthest 73 = .ok (.iload 6, 2) := by decide +kernel
theorem dX8_furthest_75 : decode cX8_furthest 75 = .ok (.goto 5, 3) := by decide +kernel
theorem dX8_furthest_78 : decode cX8_furthest 78 = .ok (.iload 4, 2) := by decide +kernel
theorem dX8_furthest_80 : decode cX8_furthest 80 = .ok (.istore 4, 2) := by decide +kernel
theorem dX8_furthest_82 : decode cX8_furthest 82 = .ok (.iload 7, 2) := by decide +kernel
theorem dX8_furthest_84 : decode cX8_furthest 84 = .ok (.iload 5, 2) := by decide +kernel
theorem dX8_furthest_86 : decode cX8_furthest 86 = .ok (.if_icmp .le 8, 3) := by decide +kernel
theorem dX8_furthest_89 : decode cX8_furthest 89 = .ok (.iload 7, 2) := by decide +kernel
theorem dX8_furthest_91 : decode cX8_furthest 91 = .ok (.goto 5, 3) := by decide +kernel
theorem dX8_furthest_94 : decode cX8_furthest 94 = .ok (.iload 5, 2) := by decide +kernel
theorem dX8_furthest_96 : decode cX8_furthest 96 = .ok (.istore 5, 2) := by decide +kernel
theorem dX8_furthest_98 : decode cX8_furthest 98 = .ok (.iinc 6 1, 3) := by decide +kernel
theorem dX8_furthest_101 : decode cX8_furthest 101 = .ok (.goto (-59), 3) := by decide +kernel
theorem dX8_furthest_104 : decode cX8_furthest 104 = .ok (.iload_n 3, 1) := by decide +kernel
theorem dX8_furthest_105 : decode cX8_furthest 105 = .ok (.ifCond .ne 8, 3) := by decide +kernel
theorem dX8_furthest_108 : decode cX8_furthest 108 = .ok (.iload 4, 2) := by decide +kernel
theorem dX8_furthest_110 : decode cX8_furthest 110 = .ok (.goto 5, 3) := by decide +kernel
theorem dX8_furthest_113 : decode cX8_furthest 113 = .ok (.iload 5, 2) := by decide +kernel
theorem dX8_furthest_115 : decode cX8_furthest 115 = .ok (.ireturn, 1) := by decide +kernel
theorem dX8_isTown_0 : decode cX8_isTown 0 = .ok (.iload_n 0, 1) := by decide +kernel
theorem dX8_isTown_1 : decode cX8_isTown 1 = .ok (.iconst 0, 1) := by decide +kernel
theorem dX8_isTown_2 : decode cX8_isTown 2 = .ok (.iconst 3, 1) := by decide +kernel
theorem dX8_isTown_3 : decode cX8_isTown 3 = .ok (.invokestatic 78, 3) := by decide +kernel
theorem dX8_isTown_6 : decode cX8_isTown 6 = .ok (.ireturn, 1) := by decide +kernel
theorem dX8_rate_0 : decode cX8_rate 0 = .ok (.iload_n 1, 1) := by decide +kernel
theorem dX8_rate_1 : decode cX8_rate 1 = .ok (.invokestatic 244, 3) := by decide +kernel
theorem dX8_rate_4 : decode cX8_rate 4 = .ok (.ifCond .eq 15, 3) := by decide +kernel
theorem dX8_rate_7 : decode cX8_rate 7 = .ok (.iload_n 2, 1) := by decide +kernel
theorem dX8_rate_8 : decode cX8_rate 8 = .ok (.invokestatic 244, 3) := by decide +kernel
theorem dX8_rate_11 : decode cX8_rate 11 = .ok (.ifCond .eq 8, 3) := by decide +kernel
theorem dX8_rate_14 : decode cX8_rate 14 = .ok (.iload_n 1, 1) := by decide +kernel
theorem dX8_rate_15 : decode cX8_rate 15 = .ok (.iload_n 2, 1) := by decide +kernel
theorem dX8_rate_16 : decode cX8_rate 16 = .ok (.if_icmp .ne 6, 3) := by decide +kernel
theorem dX8_rate_19 : decode cX8_rate 19 = .ok (.bipush (-5), 2) := by decide +kernel
theorem dX8_rate_21 : decode cX8_rate 21 = .ok (.ireturn, 1) := by decide +kernel
theorem dX8_rate_22 : decode cX8_rate 22 = .ok (.iload_n 3, 1) := by decide +kernel
theorem dX8_rate_23 : decode cX8_rate 23 = .ok (.iconst 1, 1) := by decide +kernel
theorem dX8_rate_24 : decode cX8_rate 24 = .ok (.sipush 999, 3) := by decide +kernel
theorem dX8_rate_27 : decode cX8_rate 27 = .ok (.invokestatic 78, 3) := by decide +kernel
theorem dX8_rate_30 : decode cX8_rate 30 = .ok (.ifCond .ne 6, 3) := by decide +kernel
theorem dX8_rate_33 : decode cX8_rate 33 = .ok (.bipush (-7), 2) := by decide +kernel
theorem dX8_rate_35 : decode cX8_rate 35 = .ok (.ireturn, 1) := by decide +kernel
theorem dX8_rate_36 : decode cX8_rate 36 = .ok (.aload_n 0, 1) := by decide +kernel
theorem dX8_rate_37 : decode cX8_rate 37 = .ok (.getfield 22, 3) := by decide +kernel
theorem dX8_rate_40 : decode cX8_rate 40 = .ok (.iconst 4, 1) := by decide +kernel
theorem dX8_rate_41 : decode cX8_rate 41 = .ok (.iload_n 1, 1) := by decide +kernel
theorem dX8_rate_42 : decode cX8_rate 42 = .ok (.imul, 1) := by decide +kernel
theorem dX8_rate_43 : decode cX8_rate 43 = .ok (.iload_n 2, 1) := by decide +kernel
theorem dX8_rate_44 : decode cX8_rate 44 = .ok (.iadd, 1) := by decide +kernel
theorem dX8_rate_45 : decode cX8_rate 45 = .ok (.iaload, 1) := by decide +kernel
theorem dX8_rate_46 : decode cX8_rate 46 = .ok (.istore 4, 2) := by decide +kernel
theorem dX8_rate_48 : decode cX8_rate 48 = .ok (.aload_n 0, 1) := by decide +kernel
theorem dX8_rate_49 : decode cX8_rate 49 = .ok (.getfield 22, 3) := by decide +kernel
theorem dX8_rate_52 : decode cX8_rate 52 = .ok (.iconst 4, 1) := by decide +kernel
theorem dX8_rate_53 : decode cX8_rate 53 = .ok (.iload_n 1, 1) := by decide +kernel
theorem dX8_rate_54 : decode cX8_rate 54 = .ok (.imul, 1) := by decide +kernel
theorem dX8_rate_55 : decode cX8_rate 55 = .ok (.iload_n 2, 1) := by decide +kernel
theorem dX8_rate_56 : decode cX8_rate 56 = .ok (.iadd, 1) := by decide +kernel
theorem dX8_rate_57 : decode cX8_rate 57 = .ok (.iload_n 3, 1) := by decide +kernel
theorem dX8_rate_58 : decode cX8_rate 58 = .ok (.iastore, 1) := by decide +kernel
theorem dX8_rate_59 : decode cX8_rate 59 = .ok (.iload 4, 2) := by decide +kernel
theorem dX8_rate_61 : decode cX8_rate 61 = .ok (.ireturn, 1) := by decide +kernel
theorem dX8_changes_0 : decode cX8_changes 0 = .ok (.iload_n 1, 1) := by decide +kernel
theorem dX8_changes_1 : decode cX8_changes 1 = .ok (.iload_n 2, 1) := by decide +kernel
theorem dX8_changes_2 : decode cX8_changes 2 = .ok (.if_icmp .ne 7, 3) := by decide +kernel
theorem dX8_changes_5 : decode cX8_changes 5 = .ok (.lload_n 3, 1) := by decide +kernel
theorem dX8_changes_6 : decode cX8_changes 6 = .ok (.goto 20, 3) := by decide +kernel
theorem dX8_changes_9 : decode cX8_changes 9 = .ok (.lload_n 3, 1) := by decide +kernel
theorem dX8_changes_10 : decode cX8_changes 10 = .ok (.aload_n 0, 1) := by decide +kernel
theorem dX8_changes_11 : decode cX8_changes 11 = .ok (.getfield 22, 3) := by decide +kernel
theorem dX8_changes_14 : decode cX8_changes 14 = .ok (.iconst 4, 1) := by decide +kernel
theorem dX8_changes_15 : decode cX8_changes 15 = .ok (.iload_n 1, 1) := by decide +kernel
theorem dX8_changes_16 : decode cX8_changes 16 = .ok (.imul, 1) := by decide +kernel
theorem dX8_changes_17 : decode cX8_changes 17 = .ok (.iload_n 2, 1) := by decide +kernel
theorem dX8_changes_18 : decode cX8_changes 18 = .ok (.iadd, 1) := by decide +kernel
theorem dX8_changes_19 : decode cX8_changes 19 = .ok (.iaload, 1) := by decide +kernel
theorem dX8_changes_20 : decode cX8_changes 20 = .ok (.i2l, 1) := by decide +kernel
theorem dX8_changes_21 : decode cX8_changes 21 = .ok (.lmul, 1) := by decide +kernel
theorem dX8_changes_22 : decode cX8_changes 22 = .ok (.ldc2_w 247, 3) := by decide +kernel
theorem dX8_changes_25 : decode cX8_changes 25 = .ok (.ldiv, 1) := by decide +kernel
theorem dX8_changes_26 : decode cX8_changes 26 = .ok (.lreturn, 1) := by decide +kernel
theorem dX8_change_0 : decode cX8_change 0 = .ok (.iload_n 1, 1) := by decide +kernel
theorem dX8_change_1 : decode cX8_change 1 = .ok (.invokestatic 244, 3) := by decide +kernel
theorem dX8_change_4 : decode cX8_change 4 = .ok (.ifCond .eq 32, 3) := by decide +kernel
theorem dX8_change_7 : decode cX8_change 7 = .ok (.iload_n 2, 1) := by decide +kernel
theorem dX8_change_8 : decode cX8_change 8 = .ok (.invokestatic 244, 3) := by decide +kernel
theorem dX8_change_11 : decode cX8_change 11 = .ok (.ifCond .eq 25, 3) := by decide +kernel
theorem dX8_change_14 : decode cX8_change 14 = .ok (.iload_n 3, 1) := by decide +kernel
theorem dX8_change_15 : decode cX8_change 15 = .ok (.iconst 0, 1) := by decide +kernel
theorem dX8_change_16 : decode cX8_change 16 = .ok (.sipush 9999, 3) := by decide +kernel
theorem dX8_change_19 : decode cX8_change 19 = .ok (.invokestatic 78, 3) := by decide +kernel
theorem dX8_change_22 : decode cX8_change 22 = .ok (.ifCond .eq 14, 3) := by decide +kernel
theorem dX8_change_25 : decode cX8_change 25 = .ok (.aload_n 0, 1) := by decide +kernel
theorem dX8_change_26 : decode cX8_change 26 = .ok (.iload_n 1, 1) := by decide +kernel
theorem dX8_change_27 : decode cX8_change 27 = .ok (.iload_n 2, 1) := by decide +kernel
theorem dX8_change_28 : decode cX8_change 28 = .ok (.iload_n 3, 1) := by decide +kernel
theorem dX8_change_29 : decode cX8_change 29 = .ok (.i2l, 1) := by decide +kernel
theorem dX8_change_30 : decode cX8_change 30 = .ok (.invokevirtual 249, 3) := by decide +kernel
theorem dX8_change_33 : decode cX8_change 33 = .ok (.goto 6, 3) := by decide +kernel
theorem dX8_change_36 : decode cX8_change 36 = .ok (.ldc2_w 253, 3) := by decide +kernel
theorem dX8_change_39 : decode cX8_change 39 = .ok (.lreturn, 1) := by decide +kernel
theorem dX8_closes_0 : decode cX8_closes 0 = .ok (.aload_n 0, 1) := by decide +kernel
theorem dX8_closes_1 : decode cX8_closes 1 = .ok (.iload_n 2, 1) := by decide +kernel
theorem dX8_closes_2 : decode cX8_closes 2 = .ok (.iload_n 1, 1) := by decide +kernel
theorem dX8_closes_3 : decode cX8_closes 3 = .ok (.lload_n 3, 1) := by decide +kernel
theorem dX8_closes_4 : decode cX8_closes 4 = .ok (.invokevirtual 249, 3) := by decide +kernel
theorem dX8_closes_7 : decode cX8_closes 7 = .ok (.lstore 6, 2) := by decide +kernel
theorem dX8_closes_9 : decode cX8_closes 9 = .ok (.aload_n 0, 1) := by decide +kernel
theorem dX8_closes_10 : decode cX8_closes 10 = .ok (.lload 6, 2) := by decide +kernel
theorem dX8_closes_12 : decode cX8_closes 12 = .ok (.aload_n 0, 1) := by decide +kernel
theorem dX8_closes_13 : decode cX8_closes 13 = .ok (.getfield 255, 3) := by decide +kernel
theorem dX8_closes_16 : decode cX8_closes 16 = .ok (.lcmp, 1) := by decide +kernel
theorem dX8_closes_17 : decode cX8_closes 17 = .ok (.ifCond .le 8, 3) := by decide +kernel
theorem dX8_closes_20 : decode cX8_closes 20 = .ok (.iload 5, 2) := by decide +kernel
theorem dX8_closes_22 : decode cX8_closes 22 = .ok (.goto 7, 3) := by decide +kernel
theorem dX8_closes_25 : decode cX8_closes 25 = .ok (.aload_n 0, 1) := by decide +kernel
theorem dX8_closes_26 : decode cX8_closes 26 = .ok (.getfield 259, 3) := by decide +kernel
theorem dX8_closes_29 : decode cX8_closes 29 = .ok (.putfield 259, 3) := by decide +kernel
theorem dX8_closes_32 : decode cX8_closes 32 = .ok (.aload_n 0, 1) := by decide +kernel
theorem dX8_closes_33 : decode cX8_closes 33 = .ok (.lload 6, 2) := by decide +kernel
theorem dX8_closes_35 : decode cX8_closes 35 = .ok (.aload_n 0, 1) := by decide +kernel
theorem dX8_closes_36 : decode cX8_closes 36 = .ok (.getfield 255, 3) := by decide +kernel
theorem dX8_closes_39 : decode cX8_closes 39 = .ok (.lcmp, 1) := by decide +kernel
theorem dX8_closes_40 : decode cX8_closes 40 = .ok (.ifCond .le 8, 3) := by decide +kernel
theorem dX8_closes_43 : decode cX8_closes 43 = .ok (.lload 6, 2) := by decide +kernel
theorem dX8_closes_45 : decode cX8_closes 45 = .ok (.goto 7, 3) := by decide +kernel
theorem dX8_closes_48 : decode cX8_closes 48 = .ok (.aload_n 0, 1) := by decide +kernel
theorem dX8_closes_49 : decode cX8_closes 49 = .ok (.getfield 255, 3) := by decide +kernel
theorem dX8_closes_52 : decode cX8_closes 52 = .ok (.putfield 255, 3) := by decide +kernel
theorem dX8_closes_55 : decode cX8_closes 55 = .ok (.return_, 1) := by decide +kernel
theorem dX8_thirds_0 : decode cX8_thirds 0 = .ok (.iconst 0, 1) := by decide +kernel
theorem dX8_thirds_1 : decode cX8_thirds 1 = .ok (.istore 7, 2) := by decide +kernel
theorem dX8_thirds_3 : decode cX8_thirds 3 = .ok (.iload 7, 2) := by decide +kernel
theorem dX8_thirds_5 : decode cX8_thirds 5 = .ok (.iconst 4, 1) := by decide +kernel
theorem dX8_thirds_6 : decode cX8_thirds 6 = .ok (.if_icmp .ge 66, 3) := by decide +kernel
theorem dX8_thirds_9 : decode cX8_thirds 9 = .ok (.iload 7, 2) := by decide +kernel
theorem dX8_thirds_11 : decode cX8_thirds 11 = .ok (.iload_n 1, 1) := by decide +kernel
theorem dX8_thirds_12 : decode cX8_thirds 12 = .ok (.if_icmp .ne 16, 3) := by decide +kernel
theorem dX8_thirds_15 : decode cX8_thirds 15 = .ok (.aload_n 0, 1) := by decide +kernel
theorem dX8_thirds_16 : decode cX8_thirds 16 = .ok (.iload_n 1, 1) := by decide +kernel
theorem dX8_thirds_17 : decode cX8_thirds 17 = .ok (.iload_n 3, 1) := by decide +kernel
theorem dX8_thirds_18 : decode cX8_thirds 18 = .ok (.lload 4, 2) := by decide +kernel
theorem dX8_thirds_20 : decode cX8_thirds 20 = .ok (.iload 6, 2) := by decide +kernel
theorem dX8_thirds_22 : decode cX8_thirds 22 = .ok (.invokevirtual 262, 3) := by decide +kernel
theorem dX8_thirds_25 : decode cX8_thirds 25 = .ok (.goto 41, 3) := by decide +kernel
theorem dX8_thirds_28 : decode cX8_thirds 28 = .ok (.iload 7, 2) := by decide +kernel
theorem dX8_thirds_30 : decode cX8_thirds 30 = .ok (.iload_n 2, 1) := by decide +kernel
theorem dX8_thirds_31 : decode cX8_thirds 31 = .ok (.if_icmp .eq 35, 3) := by decide +kernel
theorem dX8_thirds_34 : decode cX8_thirds 34 = .ok (.iload 7, 2) := by decide +kernel
theorem dX8_thirds_36 : decode cX8_thirds 36 = .ok (.iload_n 3, 1) := by decide +kernel
theorem dX8_thirds_37 : decode cX8_thirds 37 = .ok (.if_icmp .eq 29, 3) := by decide +kernel
theorem dX8_thirds_40 : decode cX8_thirds 40 = .ok (.aload_n 0, 1) := by decide +kernel
theorem dX8_thirds_41 : decode cX8_thirds 41 = .ok (.iload_n 1, 1) := by decide +kernel
theorem dX8_thirds_42 : decode cX8_thirds 42 = .ok (.iload 7, 2) := by decide +kernel
theorem dX8_thirds_44 : decode cX8_thirds 44 = .ok (.aload_n 0, 1) := by decide +kernel
theorem dX8_thirds_45 : decode cX8_thirds 45 = .ok (.iload_n 3, 1) := by decide +kernel
theorem dX8_thirds_46 : decode cX8_thirds 46 = .ok (.iload 7, 2) := by decide +kernel
theorem dX8_thirds_48 : decode cX8_thirds 48 = .ok (.lload 4, 2) := by decide +kernel
theorem dX8_thirds_50 : decode cX8_thirds 50 = .ok (.invokevirtual 249, 3) := by decide +kernel
theorem dX8_thirds_53 : decode cX8_thirds 53 = .ok (.bipush 10, 2) := by decide +kernel
theorem dX8_thirds_55 : decode cX8_thirds 55 = .ok (.iload 6, 2) := by decide +kernel
theorem dX8_thirds_57 : decode cX8_thirds 57 = .ok (.imul, 1) := by decide +kernel
theorem dX8_thirds_58 : decode cX8_thirds 58 = .ok (.iload 7, 2) := by decide +kernel
theorem dX8_thirds_60 : decode cX8_thirds 60 = .ok (.iadd, 1) := by decide +kernel
theorem dX8_thirds_61 : decode cX8_thirds 61 = .ok (.iconst 1, 1) := by decide +kernel
theorem dX8_thirds_62 : decode cX8_thirds 62 = .ok (.iadd, 1) := by decide +kernel
theorem dX8_thirds_63 : decode cX8_thirds 63 = .ok (.invokevirtual 262, 3) := by decide +kernel
theorem dX8_thirds_66 : decode cX8_thirds 66 = .ok (.iinc 7 1, 3) := by decide +kernel
theorem dX8_thirds_69 : decode cX8_thirds 69 = .ok (.goto (-66), 3) := by decide +kernel
theorem dX8_thirds_72 : decode cX8_thirds 72 = .ok (.return_, 1) := by decide +kernel
theorem dX8_seconds_0 : decode cX8_seconds 0 = .ok (.iconst 0, 1) := by decide +kernel
theorem dX8_seconds_1 : decode cX8_seconds 1 = .ok (.istore 6, 2) := by decide +kernel
theorem dX8_seconds_3 : decode cX8_seconds 3 = .ok (.iload 6, 2) := by decide +kernel
theorem dX8_seconds_5 : decode cX8_seconds 5 = .ok (.iconst 4, 1) := by decide +kernel
theorem dX8_seconds_6 : decode cX8_seconds 6 = .ok (.if_icmp .ge 59, 3) := by decide +kernel
theorem dX8_seconds_9 : decode cX8_seconds 9 = .ok (.iload 6, 2) := by decide +kernel
theorem dX8_seconds_11 : decode cX8_seconds 11 = .ok (.iload_n 1, 1) := by decide +kernel
theorem dX8_seconds_12 : decode cX8_seconds 12 = .ok (.if_icmp .ne 15, 3) := by decide +kernel
theorem dX8_seconds_15 : decode cX8_seconds 15 = .ok (.aload_n 0, 1) := by decide +kernel
theorem dX8_seconds_16 : decode cX8_seconds 16 = .ok (.iload_n 1, 1) := by decide +kernel
theorem dX8_seconds_17 : decode cX8_seconds 17 = .ok (.iload_n 2, 1) := by decide +kernel
theorem dX8_seconds_18 : decode cX8_seconds 18 = .ok (.lload_n 3, 1) := by decide +kernel
theorem dX8_seconds_19 : decode cX8_seconds 19 = .ok (.iload 5, 2) := by decide +kernel
theorem dX8_seconds_21 : decode cX8_seconds 21 = .ok (.invokevirtual 262, 3) := by decide +kernel
theorem dX8_seconds_24 : decode cX8_seconds 24 = .ok (.goto 35, 3) := by decide +kernel
theorem dX8_seconds_27 : decode cX8_seconds 27 = .ok (.iload 6, 2) := by decide +kernel
theorem dX8_seconds_29 : decode cX8_seconds 29 = .ok (.iload_n 2, 1) := by decide +kernel
theorem dX8_seconds_30 : decode cX8_seconds 30 = .ok (.if_icmp .eq 29, 3) := by decide +kernel
theorem dX8_seconds_33 : decode cX8_seconds 33 = .ok (.aload_n 0, 1) := by decide +kernel
theorem dX8_seconds_34 : decode cX8_seconds 34 = .ok (.iload_n 1, 1) := by decide +kernel
theorem dX8_seconds_35 : decode cX8_seconds 35 = .ok (.iload_n 2, 1) := by decide +kernel
theorem dX8_seconds_36 : decode cX8_seconds 36 = .ok (.iload 6, 2) := by decide +kernel
theorem dX8_seconds_38 : decode cX8_seconds 38 = .ok (.aload_n 0, 1) := by decide +kernel
theorem dX8_seconds_39 : decode cX8_seconds 39 = .ok (.iload_n 2, 1) := by decide +kernel
theorem dX8_seconds_40 : decode cX8_seconds 40 = .ok (.iload 6, 2) := by decide +kernel
theorem dX8_seconds_42 : decode cX8_seconds 42 = .ok (.lload_n 3, 1) := by decide +kernel
theorem dX8_seconds_43 : decode cX8_seconds 43 = .ok (.invokevirtual 249, 3) := by decide +kernel
theorem dX8_seconds_46 : decode cX8_seconds 46 = .ok (.bipush 10, 2) := by decide +kernel
theorem dX8_seconds_48 : decode cX8_seconds 48 = .ok (.iload 5, 2) := by decide +kernel
theorem dX8_seconds_50 : decode cX8_seconds 50 = .ok (.imul, 1) := by decide +kernel
theorem dX8_seconds_51 : decode cX8_seconds 51 = .ok (.iload 6, 2) := by decide +kernel
theorem dX8_seconds_53 : decode cX8_seconds 53 = .ok (.iadd, 1) := by decide +kernel
theorem dX8_seconds_54 : decode cX8_seconds 54 = .ok (.iconst 1, 1) := by decide +kernel
theorem dX8_seconds_55 : decode cX8_seconds 55 = .ok (.iadd, 1) := by decide +kernel
theorem dX8_seconds_56 : decode cX8_seconds 56 = .ok (.invokevirtual 266, 3) := by decide +kernel
theorem dX8_seconds_59 : decode cX8_seconds 59 = .ok (.iinc 6 1, 3) := by decide +kernel
theorem dX8_seconds_62 : decode cX8_seconds 62 = .ok (.goto (-59), 3) := by decide +kernel
theorem dX8_seconds_65 : decode cX8_seconds 65 = .ok (.return_, 1) := by decide +kernel
theorem dX8_gain_0 : decode cX8_gain 0 = .ok (.iload_n 1, 1) := by decide +kernel
theorem dX8_gain_1 : decode cX8_gain 1 = .ok (.invokestatic 244, 3) := by decide +kernel
theorem dX8_gain_4 : decode cX8_gain 4 = .ok (.ifCond .eq 23, 3) := by decide +kernel
theorem dX8_gain_7 : decode cX8_gain 7 = .ok (.iload_n 2, 1) := by decide +kernel
theorem dX8_gain_8 : decode cX8_gain 8 = .ok (.iconst 0, 1) := by decide +kernel
theorem dX8_gain_9 : decode cX8_gain 9 = .ok (.sipush 9999, 3) := by decide +kernel
theorem dX8_gain_12 : decode cX8_gain 12 = .ok (.invokestatic 78, 3) := by decide +kernel
theorem dX8_gain_15 : decode cX8_gain 15 = .ok (.ifCond .eq 12, 3) := by decide +kernel
theorem dX8_gain_18 : decode cX8_gain 18 = .ok (.iload_n 3, 1) := by decide +kernel
theorem dX8_gain_19 : decode cX8_gain 19 = .ok (.iconst 0, 1) := by decide +kernel
theorem dX8_gain_20 : decode cX8_gain 20 = .ok (.iconst 1, 1) := by decide +kernel
theorem dX8_gain_21 : decode cX8_gain 21 = .ok (.invokestatic 78, 3) := by decide +kernel
theorem dX8_gain_24 : decode cX8_gain 24 = .ok (.ifCond .ne 7, 3) := by decide +kernel
theorem dX8_gain_27 : decode cX8_gain 27 = .ok (.ldc2_w 253, 3) := by decide +kernel
theorem dX8_gain_30 : decode cX8_gain 30 = .ok (.lreturn, 1) := by decide +kernel
theorem dX8_gain_31 : decode cX8_gain 31 = .ok (.aload_n 0, 1) := by decide +kernel
theorem dX8_gain_32 : decode cX8_gain 32 = .ok (.iload_n 2, 1) := by decide +kernel
theorem dX8_gain_33 : decode cX8_gain 33 = .ok (.i2l, 1) := by decide +kernel
theorem dX8_gain_34 : decode cX8_gain 34 = .ok (.putfield 255, 3) := by decide +kernel
theorem dX8_gain_37 : decode cX8_gain 37 = .ok (.aload_n 0, 1) := by decide +kernel
theorem dX8_gain_38 : decode cX8_gain 38 = .ok (.iconst 0, 1) := by decide +kernel
theorem dX8_gain_39 : decode cX8_gain 39 = .ok (.putfield 259, 3) := by decide +kernel
theorem dX8_gain_42 : decode cX8_gain 42 = .ok (.iconst 0, 1) := by decide +kernel
theorem dX8_gain_43 : decode cX8_gain 43 = .ok (.istore 4, 2) := by decide +kernel
theorem dX8_gain_45 : decode cX8_gain 45 = .ok (.iload 4, 2) := by decide +kernel
theorem dX8_gain_47 : decode cX8_gain 47 = .ok (.iconst 4, 1) := by decide +kernel
theorem dX8_gain_48 : decode cX8_gain 48 = .ok (.if_icmp .ge 35, 3) := by decide +kernel
theorem dX8_gain_51 : decode cX8_gain 51 = .ok (.iload 4, 2) := by decide +kernel
theorem dX8_gain_53 : decode cX8_gain 53 = .ok (.iload_n 1, 1) := by decide +kernel
theorem dX8_gain_54 : decode cX8_gain 54 = .ok (.if_icmp .eq 23, 3) := by decide +kernel
theorem dX8_gain_57 : decode cX8_gain 57 = .ok (.aload_n 0, 1) := by decide +kernel
theorem dX8_gain_58 : decode cX8_gain 58 = .ok (.iload_n 1, 1) := by decide +kernel
theorem dX8_gain_59 : decode cX8_gain 59 = .ok (.iload 4, 2) := by decide +kernel
theorem dX8_gain_61 : decode cX8_gain 61 = .ok (.aload_n 0, 1) := by decide +kernel
theorem dX8_gain_62 : decode cX8_gain 62 = .ok (.iload_n 1, 1) := by decide +kernel
theorem dX8_gain_63 : decode cX8_gain 63 = .ok (.iload 4, 2) := by decide +kernel
theorem dX8_gain_65 : decode cX8_gain 65 = .ok (.iload_n 2, 1) := by decide +kernel
theorem dX8_gain_66 : decode cX8_gain 66 = .ok (.i2l, 1) := by decide +kernel
theorem dX8_gain_67 : decode cX8_gain 67 = .ok (.invokevirtual 249, 3) := by decide +kernel
theorem dX8_gain_70 : decode cX8_gain 70 = .ok (.iload 4, 2) := by decide +kernel
theorem dX8_gain_72 : decode cX8_gain 72 = .ok (.iconst 1, 1) := by decide +kernel
theorem dX8_gain_73 : decode cX8_gain 73 = .ok (.iadd, 1) := by decide +kernel
theorem dX8_gain_74 : decode cX8_gain 74 = .ok (.invokevirtual 270, 3) := by decide +kernel
theorem dX8_gain_77 : decode cX8_gain 77 = .ok (.iinc 4 1, 3) := by decide +kernel
theorem dX8_gain_80 : decode cX8_gain 80 = .ok (.goto (-35), 3) := by decide +kernel
theorem dX8_gain_83 : decode cX8_gain 83 = .ok (.iload_n 3, 1) := by decide +kernel
theorem dX8_gain_84 : decode cX8_gain 84 = .ok (.ifCond .ne 11, 3) := by decide +kernel
theorem dX8_gain_87 : decode cX8_gain 87 = .ok (.aload_n 0, 1) := by decide +kernel
theorem dX8_gain_88 : decode cX8_gain 88 = .ok (.getfield 259, 3) := by decide +kernel
theorem dX8_gain_91 : decode cX8_gain 91 = .ok (.i2l, 1) := by decide +kernel
theorem dX8_gain_92 : decode cX8_gain 92 = .ok (.goto 7, 3) := by decide +kernel
theorem dX8_gain_95 : decode cX8_gain 95 = .ok (.aload_n 0, 1) := by decide +kernel
theorem dX8_gain_96 : decode cX8_gain 96 = .ok (.getfield 255, 3) := by decide +kernel
theorem dX8_gain_99 : decode cX8_gain 99 = .ok (.lreturn, 1) := by decide +kernel
theorem dX8_sheetWrong_0 : decode cX8_sheetWrong 0 = .ok (.iload_n 1, 1) := by decide +kernel
theorem dX8_sheetWrong_1 : decode cX8_sheetWrong 1 = .ok (.iconst 0, 1) := by decide +kernel
theorem dX8_sheetWrong_2 : decode cX8_sheetWrong 2 = .ok (.iconst 3, 1) := by decide +kernel
theorem dX8_sheetWrong_3 : decode cX8_sheetWrong 3 = .ok (.invokestatic 78, 3) := by decide +kernel
theorem dX8_sheetWrong_6 : decode cX8_sheetWrong 6 = .ok (.ifCond .ne 6, 3) := by decide +kernel
theorem dX8_sheetWrong_9 : decode cX8_sheetWrong 9 = .ok (.bipush (-2), 2) := by decide +kernel
theorem dX8_sheetWrong_11 : decode cX8_sheetWrong 11 = .ok (.ireturn, 1) := by decide +kernel
theorem dX8_sheetWrong_12 : decode cX8_sheetWrong 12 = .ok (.aload_n 0, 1) := by decide +kernel
theorem dX8_sheetWrong_13 : decode cX8_sheetWrong 13 = .ok (.getfield 37, 3) := by decide +kernel
theorem dX8_sheetWrong_16 : decode cX8_sheetWrong 16 = .ok (.iload_n 1, 1) := by decide +kernel
theorem dX8_sheetWrong_17 : decode cX8_sheetWrong 17 = .ok (.iaload, 1) := by decide +kernel
theorem dX8_sheetWrong_18 : decode cX8_sheetWrong 18 = .ok (.iconst (-1), 1) := by decide +kernel
theorem dX8_sheetWrong_19 : decode cX8_sheetWrong 19 = .ok (.if_icmp .ne 6, 3) := by decide +kernel
theorem dX8_sheetWrong_22 : decode cX8_sheetWrong 22 = .ok (.bipush (-11), 2) := by decide +kernel
theorem dX8_sheetWrong_24 : decode cX8_sheetWrong 24 = .ok (.ireturn, 1) := by decide +kernel
theorem dX8_sheetWrong_25 : decode cX8_sheetWrong 25 = .ok (.aload_n 0, 1) := by decide +kernel
theorem dX8_sheetWrong_26 : decode cX8_sheetWrong 26 = .ok (.getfield 40, 3) := by decide +kernel
theorem dX8_sheetWrong_29 : decode cX8_sheetWrong 29 = .ok (.iload_n 1, 1) := by decide +kernel
theorem dX8_sheetWrong_30 : decode cX8_sheetWrong 30 = .ok (.iaload, 1) := by decide +kernel
theorem dX8_sheetWrong_31 : decode cX8_sheetWrong 31 = .ok (.aload_n 0, 1) := by decide +kernel
theorem dX8_sheetWrong_32 : decode cX8_sheetWrong 32 = .ok (.getfield 75, 3) := by decide +kernel
theorem dX8_sheetWrong_35 : decode cX8_sheetWrong 35 = .ok (.if_icmp .ne 7, 3) := by decide +kernel
theorem dX8_sheetWrong_38 : decode cX8_sheetWrong 38 = .ok (.iconst 0, 1) := by decide +kernel
theorem dX8_sheetWrong_39 : decode cX8_sheetWrong 39 = .ok (.goto 5, 3) := by decide +kernel
theorem dX8_sheetWrong_42 : decode cX8_sheetWrong 42 = .ok (.bipush (-2), 2) := by decide +kernel
theorem dX8_sheetWrong_44 : decode cX8_sheetWrong 44 = .ok (.ireturn, 1) := by decide +kernel
theorem dX8_toldWrong_0 : decode cX8_toldWrong 0 = .ok (.aload_n 0, 1) := by decide +kernel
theorem dX8_toldWrong_1 : decode cX8_toldWrong 1 = .ok (.iload_n 1, 1) := by decide +kernel
theorem dX8_toldWrong_2 : decode cX8_toldWrong 2 = .ok (.invokevirtual 273, 3) := by decide +kernel
theorem dX8_toldWrong_5 : decode cX8_toldWrong 5 = .ok (.istore_n 3, 1) := by decide +kernel
theorem dX8_toldWrong_6 : decode cX8_toldWrong 6 = .ok (.iload_n 3, 1) := by decide +kernel
theorem dX8_toldWrong_7 : decode cX8_toldWrong 7 = .ok (.ifCond .eq 7, 3) := by decide +kernel
theorem dX8_toldWrong_10 : decode cX8_toldWrong 10 = .ok (.iload_n 3, 1) := by decide +kernel
theorem dX8_toldWrong_11 : decode cX8_toldWrong 11 = .ok (.goto 17, 3) := by decide +kernel
theorem dX8_toldWrong_14 : decode cX8_toldWrong 14 = .ok (.aload_n 0, 1) := by decide +kernel
theorem dX8_toldWrong_15 : decode cX8_toldWrong 15 = .ok (.iload_n 2, 1) := by decide +kernel
theorem dX8_toldWrong_16 : decode cX8_toldWrong 16 = .ok (.invokevirtual 167, 3) := by decide +kernel
theorem dX8_toldWrong_19 : decode cX8_toldWrong 19 = .ok (.ifCond .eq 7, 3) := by decide +kernel
theorem dX8_toldWrong_22 : decode cX8_toldWrong 22 = .ok (.iconst 0, 1) := by decide +kernel
theorem dX8_toldWrong_23 : decode cX8_toldWrong 23 = .ok (.goto 5, 3) := by decide +kernel
theorem dX8_toldWrong_26 : decode cX8_toldWrong 26 = .ok (.bipush (-6), 2) := by decide +kernel
theorem dX8_toldWrong_28 : decode cX8_toldWrong 28 = .ok (.ireturn, 1) := by decide +kernel
theorem dX8_unlike_0 : decode cX8_unlike 0 = .ok (.iconst 0, 1) := by decide +kernel
theorem dX8_unlike_1 : decode cX8_unlike 1 = .ok (.istore_n 3, 1) := by decide +kernel
theorem dX8_unlike_2 : decode cX8_unlike 2 = .ok (.iload_n 3, 1) := by decide +kernel
theorem dX8_unlike_3 : decode cX8_unlike 3 = .ok (.aload_n 0, 1) := by decide +kernel
theorem dX8_unlike_4 : decode cX8_unlike 4 = .ok (.getfield 75, 3) := by decide +kernel
theorem dX8_unlike_7 : decode cX8_unlike 7 = .ok (.if_icmp .ge 31, 3) := by decide +kernel
theorem dX8_unlike_10 : decode cX8_unlike 10 = .ok (.aload_n 0, 1) := by decide +kernel
theorem dX8_unlike_11 : decode cX8_unlike 11 = .ok (.getfield 43, 3) := by decide +kernel
theorem dX8_unlike_14 : decode cX8_unlike 14 = .ok (.bipush 40, 2) := by decide +kernel
theorem dX8_unlike_16 : decode cX8_unlike 16 = .ok (.iload_n 1, 1) := by decide +kernel
theorem dX8_unlike_17 : decode cX8_unlike 17 = .ok (.imul, 1) := by decide +kernel
theorem dX8_unlike_18 : decode cX8_unlike 18 = .ok (.iload_n 3, 1) := by decide +kernel
theorem dX8_unlike_19 : decode cX8_unlike 19 = .ok (.iadd, 1) := by decide +kernel
theorem dX8_unlike_20 : decode cX8_unlike 20 = .ok (.iaload, 1) := by decide +kernel
theorem dX8_unlike_21 : decode cX8_unlike 21 = .ok (.aload_n 0, 1) := by decide +kernel
theorem dX8_unlike_22 : decode cX8_unlike 22 = .ok (.iload_n 3, 1) := by decide +kernel
theorem dX8_unlike_23 : decode cX8_unlike 23 = .ok (.iload_n 2, 1) := by decide +kernel
theorem dX8_unlike_24 : decode cX8_unlike 24 = .ok (.invokevirtual 190, 3) := by decide +kernel
theorem dX8_unlike_27 : decode cX8_unlike 27 = .ok (.if_icmp .eq 5, 3) := by decide +kernel
theorem dX8_unlike_30 : decode cX8_unlike 30 = .ok (.iload_n 3, 1) := by decide +kernel
theorem dX8_unlike_31 : decode cX8_unlike 31 = .ok (.ireturn, 1) := by decide +kernel
theorem dX8_unlike_32 : decode cX8_unlike 32 = .ok (.iinc 3 1, 3) := by decide +kernel
theorem dX8_unlike_35 : decode cX8_unlike 35 = .ok (.goto (-33), 3) := by decide +kernel
theorem dX8_unlike_38 : decode cX8_unlike 38 = .ok (.iconst (-1), 1) := by decide +kernel
theorem dX8_unlike_39 : decode cX8_unlike 39 = .ok (.ireturn, 1) := by decide +kernel
theorem dX8_judge_0 : decode cX8_judge 0 = .ok (.aload_n 0, 1) := by decide +kernel
theorem dX8_judge_1 : decode cX8_judge 1 = .ok (.iload_n 1, 1) := by decide +kernel
theorem dX8_judge_2 : decode cX8_judge 2 = .ok (.iload_n 2, 1) := by decide +kernel
theorem dX8_judge_3 : decode cX8_judge 3 = .ok (.invokevirtual 276, 3) := by decide +kernel
theorem dX8_judge_6 : decode cX8_judge 6 = .ok (.istore_n 3, 1) := by decide +kernel
theorem dX8_judge_7 : decode cX8_judge 7 = .ok (.iload_n 3, 1) := by decide +kernel
theorem dX8_judge_8 : decode cX8_judge 8 = .ok (.ifCond .ne 12, 3) := by decide +kernel
theorem dX8_judge_11 : decode cX8_judge 11 = .ok (.aload_n 0, 1) := by decide +kernel
theorem dX8_judge_12 : decode cX8_judge 12 = .ok (.iload_n 1, 1) := by decide +kernel
theorem dX8_judge_13 : decode cX8_judge 13 = .ok (.iload_n 2, 1) := by decide +kernel
theorem dX8_judge_14 : decode cX8_judge 14 = .ok (.invokevirtual 279, 3) := by decide +kernel
theorem dX8_judge_17 : decode cX8_judge 17 = .ok (.goto 4, 3) := by decide +kernel
theorem dX8_judge_20 : decode cX8_judge 20 = .ok (.iload_n 3, 1) := by decide +kernel
theorem dX8_judge_21 : decode cX8_judge 21 = .ok (.ireturn, 1) := by decide +kernel
theorem dX8_humours_0 : decode cX8_humours 0 = .ok (.aload_n 0, 1) := by decide +kernel
theorem dX8_humours_1 : decode cX8_humours 1 = .ok (.iload_n 1, 1) := by decide +kernel
theorem dX8_humours_2 : decode cX8_humours 2 = .ok (.iload_n 2, 1) := by decide +kernel
theorem dX8_humours_3 : decode cX8_humours 3 = .ok (.invokevirtual 276, 3) := by decide +kernel
theorem dX8_humours_6 : decode cX8_humours 6 = .ok (.istore_n 3, 1) := by decide +kernel
theorem dX8_humours_7 : decode cX8_humours 7 = .ok (.iload_n 3, 1) := by decide +kernel
theorem dX8_humours_8 : decode cX8_humours 8 = .ok (.ifCond .eq 5, 3) := by decide +kernel
theorem dX8_humours_11 : decode cX8_humours 11 = .ok (.iload_n 3, 1) := by decide +kernel
theorem dX8_humours_12 : decode cX8_humours 12 = .ok (.ireturn, 1) := by decide +kernel
theorem dX8_humours_13 : decode cX8_humours 13 = .ok (.aload_n 0, 1) := by decide +kernel
theorem dX8_humours_14 : decode cX8_humours 14 = .ok (.getfield 19, 3) := by decide +kernel
theorem dX8_humours_17 : decode cX8_humours 17 = .ok (.iconst 5, 1) := by decide +kernel
theorem dX8_humours_18 : decode cX8_humours 18 = .ok (.iload_n 2, 1) := by decide +kernel
theorem dX8_humours_19 : decode cX8_humours 19 = .ok (.imul, 1) := by decide +kernel
theorem dX8_humours_20 : decode cX8_humours 20 = .ok (.iaload, 1) := by decide +kernel
theorem dX8_humours_21 : decode cX8_humours 21 = .ok (.istore 4, 2) := by decide +kernel
theorem dX8_humours_23 : decode cX8_humours 23 = .ok (.iconst 0, 1) := by decide +kernel
theorem dX8_humours_24 : decode cX8_humours 24 = .ok (.istore 5, 2) := by decide +kernel
theorem dX8_humours_26 : decode cX8_humours 26 = .ok (.iconst 0, 1) := by decide +kernel
theorem dX8_humours_27 : decode cX8_humours 27 = .ok (.istore 6, 2) := by decide +kernel
theorem dX8_humours_29 : decode cX8_humours 29 = .ok (.iload 6, 2) := by decide +kernel
theorem dX8_humours_31 : decode cX8_humours 31 = .ok (.bipush 10, 2) := by decide +kernel
theorem dX8_humours_33 : decode cX8_humours 33 = .ok (.if_icmp .ge 42, 3) := by decide +kernel
theorem dX8_humours_36 : decode cX8_humours 36 = .ok (.aload_n 0, 1) := by decide +kernel
theorem dX8_humours_37 : decode cX8_humours 37 = .ok (.getfield 19, 3) := by decide +kernel
theorem dX8_humours_40 : decode cX8_humours 40 = .ok (.iconst 5, 1) := by decide +kernel
theorem dX8_humours_41 : decode cX8_humours 41 = .ok (.iload_n 2, 1) := by decide +kernel
theorem dX8_humours_42 : decode cX8_humours 42 = .ok (.imul, 1) := by decide +kernel
theorem dX8_humours_43 : decode cX8_humours 43 = .ok (.iload 6, 2) := by decide +kernel
theorem dX8_humours_45 : decode cX8_humours 45 = .ok (.iastore, 1) := by decide +kernel
theorem dX8_humours_46 : decode cX8_humours 46 = .ok (.iload 5, 2) := by decide +kernel
theorem dX8_humours_48 : decode cX8_humours 48 = .ok (.aload_n 0, 1) := by decide +kernel
theorem dX8_humours_49 : decode cX8_humours 49 = .ok (.iload_n 1, 1) := by decide +kernel
theorem dX8_humours_50 : decode cX8_humours 50 = .ok (.iload_n 2, 1) := by decide +kernel
theorem dX8_humours_51 : decode cX8_humours 51 = .ok (.invokevirtual 279, 3) := by decide +kernel
theorem dX8_humours_54 : decode cX8_humours 54 = .ok (.iconst (-1), 1) := by decide +kernel
theorem dX8_humours_55 : decode cX8_humours 55 = .ok (.if_icmp .ne 10, 3) := by decide +kernel
theorem dX8_humours_58 : decode cX8_humours 58 = .ok (.iconst 1, 1) := by decide +kernel
theorem dX8_humours_59 : decode cX8_humours 59 = .ok (.iload 6, 2) := by decide +kernel
theorem dX8_humours_61 : decode cX8_humours 61 = .ok (.ishl, 1) := by decide +kernel
theorem dX8_humours_62 : decode cX8_humours 62 = .ok (.goto 4, 3) := by decide +kernel
theorem dX8_humours_65 : decode cX8_humours 65 = .ok (.iconst 0, 1) := by decide +kernel
theorem dX8_humours_66 : decode cX8_humours 66 = .ok (.ior, 1) := by decide +kernel
theorem dX8_humours_67 : decode cX8_humours 67 = .ok (.istore 5, 2) := by decide +kernel
theorem dX8_humours_69 : decode cX8_humours 69 = .ok (.iinc 6 1, 3) := by decide +kernel
theorem dX8_humours_72 : decode cX8_humours 72 = .ok (.goto (-43), 3) := by decide +kernel
theorem dX8_humours_75 : decode cX8_humours 75 = .ok (.aload_n 0, 1) := by decide +kernel
theorem dX8_humours_76 : decode cX8_humours 76 = .ok (.getfield 19, 3) := by decide +kernel
theorem dX8_humours_79 : decode cX8_humours 79 = .ok (.iconst 5, 1) := by decide +kernel
theorem dX8_humours_80 : decode cX8_humours 80 = .ok (.iload_n 2, 1) := by decide +kernel
theorem dX8_humours_81 : decode cX8_humours 81 = .ok (.imul, 1) := by decide +kernel
theorem dX8_humours_82 : decode cX8_humours 82 = .ok (.iload 4, 2) := by decide +kernel
theorem dX8_humours_84 : decode cX8_humours 84 = .ok (.iastore, 1) := by decide +kernel
theorem dX8_humours_85 : decode cX8_humours 85 = .ok (.iload 5, 2) := by decide +kernel
theorem dX8_humours_87 : decode cX8_humours 87 = .ok (.ireturn, 1) := by decide +kernel
theorem dX8_heards_0 : decode cX8_heards 0 = .ok (.aload_n 0, 1) := by decide +kernel
theorem dX8_heards_1 : decode cX8_heards 1 = .ok (.iload_n 1, 1) := by decide +kernel
theorem dX8_heards_2 : decode cX8_heards 2 = .ok (.iload_n 2, 1) := by decide +kernel
theorem dX8_heards_3 : decode cX8_heards 3 = .ok (.invokevirtual 276, 3) := by decide +kernel
theorem dX8_heards_6 : decode cX8_heards 6 = .ok (.istore 4, 2) := by decide +kernel
theorem dX8_heards_8 : decode cX8_heards 8 = .ok (.iload 4, 2) := by decide +kernel
theorem dX8_heards_10 : decode cX8_heards 10 = .ok (.ifCond .eq 6, 3) := by decide +kernel
theorem dX8_heards_13 : decode cX8_heards 13 = .ok (.iload 4, 2) := by decide +kernel
theorem dX8_heards_15 : decode cX8_heards 15 = .ok (.ireturn, 1) := by decide +kernel
theorem dX8_heards_16 : decode cX8_heards 16 = .ok (.iload_n 3, 1) := by decide +kernel
theorem dX8_heards_17 : decode cX8_heards 17 = .ok (.iconst 0, 1) := by decide +kernel
theorem dX8_heards_18 : decode cX8_heards 18 = .ok (.iconst 2, 1) := by decide +kernel
theorem dX8_heards_19 : decode cX8_heards 19 = .ok (.invokestatic 78, 3) := by decide +kernel
theorem dX8_heards_22 : decode cX8_heards 22 = .ok (.ifCond .ne 6, 3) := by decide +kernel
theorem dX8_heards_25 : decode cX8_heards 25 = .ok (.bipush (-7), 2) := by decide +kernel
theorem dX8_heards_27 : decode cX8_heards 27 = .ok (.ireturn, 1) := by decide +kernel
theorem dX8_heards_28 : decode cX8_heards 28 = .ok (.aload_n 0, 1) := by decide +kernel
theorem dX8_heards_29 : decode cX8_heards 29 = .ok (.getfield 19, 3) := by decide +kernel
theorem dX8_heards_32 : decode cX8_heards 32 = .ok (.iconst 5, 1) := by decide +kernel
theorem dX8_heards_33 : decode cX8_heards 33 = .ok (.iload_n 2, 1) := by decide +kernel
theorem dX8_heards_34 : decode cX8_heards 34 = .ok (.imul, 1) := by decide +kernel
theorem dX8_heards_35 : decode cX8_heards 35 = .ok (.iconst 3, 1) := by decide +kernel
theorem dX8_heards_36 : decode cX8_heards 36 = .ok (.iadd, 1) := by decide +kernel
theorem dX8_heards_37 : decode cX8_heards 37 = .ok (.iaload, 1) := by decide +kernel
theorem dX8_heards_38 : decode cX8_heards 38 = .ok (.istore 5, 2) := by decide +kernel
theorem dX8_heards_40 : decode cX8_heards 40 = .ok (.iconst 1, 1) := by decide +kernel
theorem dX8_heards_41 : decode cX8_heards 41 = .ok (.aload_n 0, 1) := by decide +kernel
theorem dX8_heards_42 : decode cX8_heards 42 = .ok (.getfield 75, 3) := by decide +kernel
theorem dX8_heards_45 : decode cX8_heards 45 = .ok (.ishl, 1) := by decide +kernel
theorem dX8_heards_46 : decode cX8_heards 46 = .ok (.iconst 1, 1) := by decide +kernel
theorem dX8_heards_47 : decode cX8_heards 47 = .ok (.isub, 1) := by decide +kernel
theorem dX8_heards_48 : decode cX8_heards 48 = .ok (.istore 6, 2) := by decide +kernel
theorem dX8_heards_50 : decode cX8_heards 50 = .ok (.iconst 0, 1) := by decide +kernel
theorem dX8_heards_51 : decode cX8_heards 51 = .ok (.istore 7, 2) := by decide +kernel
theorem dX8_heards_53 : decode cX8_heards 53 = .ok (.iload 6, 2) := by decide +kernel
theorem dX8_heards_55 : decode cX8_heards 55 = .ok (.istore 8, 2) := by decide +kernel
theorem dX8_heards_57 : decode cX8_heards 57 = .ok (.iconst 0, 1) := by decide +kernel
theorem dX8_heards_58 : decode cX8_heards 58 = .ok (.istore 9, 2) := by decide +kernel
theorem dX8_heards_60 : decode cX8_heards 60 = .ok (.iconst 0, 1) := by decide +kernel
theorem dX8_heards_61 : decode cX8_heards 61 = .ok (.istore 10, 2) := by decide +kernel
theorem dX8_heards_63 : decode cX8_heards 63 = .ok (.iload 10, 2) := by decide +kernel
theorem dX8_heards_65 : decode cX8_heards 65 = .ok (.iload 6, 2) := by decide +kernel
theorem dX8_heards_67 : decode cX8_heards 67 = .ok (.if_icmp .gt 48, 3) := by decide +kernel
theorem dX8_heards_70 : decode cX8_heards 70 = .ok (.aload_n 0, 1) := by decide +kernel
theorem dX8_heards_71 : decode cX8_heards 71 = .ok (.getfield 19, 3) := by decide +kernel
theorem dX8_heards_74 : decode cX8_heards 74 = .ok (.iconst 5, 1) := by decide +kernel
theorem dX8_heards_75 : decode cX8_heards 75 = .ok (.iload_n 2, 1) := by decide +kernel
theorem dX8_heards_76 : decode cX8_heards 76 = .ok (.imul, 1) := by decide +kernel
theorem dX8_heards_77 : decode cX8_heards 77 = .ok (.iconst 3, 1) := by decide +kernel
theorem dX8_heards_78 : decode cX8_heards 78 = .ok (.iadd, 1) := by decide +kernel
theorem dX8_heards_79 : decode cX8_heards 79 = .ok (.iload 10, 2) := by decide +kernel
theorem dX8_heards_81 : decode cX8_heards 81 = .ok (.iastore, 1) := by decide +kernel
theorem dX8_heards_82 : decode cX8_heards 82 = .ok (.aload_n 0, 1) := by decide +kernel
theorem dX8_heards_83 : decode cX8_heards 83 = .ok (.iload_n 1, 1) := by decide +kernel
theorem dX8_heards_84 : decode cX8_heards 84 = .ok (.iload_n 2, 1) := by decide +kernel
theorem dX8_heards_85 : decode cX8_heards 85 = .ok (.invokevirtual 279, 3) := by decide +kernel
theorem dX8_heards_88 : decode cX8_heards 88 = .ok (.iconst (-1), 1) := by decide +kernel
theorem dX8_heards_89 : decode cX8_heards 89 = .ok (.if_icmp .ne 20, 3) := by decide +kernel
theorem dX8_heards_92 : decode cX8_heards 92 = .ok (.iinc 7 1, 3) := by decide +kernel
theorem dX8_heards_95 : decode cX8_heards 95 = .ok (.iload 8, 2) := by decide +kernel
theorem dX8_heards_97 : decode cX8_heards 97 = .ok (.iload 10, 2) := by decide +kernel
theorem dX8_heards_99 : decode cX8_heards 99 = .ok (.iand, 1) := by decide +kernel
theorem dX8_heards_100 : decode cX8_heards 100 = .ok (.istore 8, 2) := by decide +kernel
theorem dX8_heards_102 : decode cX8_heards 102 = .ok (.iload 9, 2) := by decide +kernel
theorem dX8_heards_104 : decode cX8_heards 104 = .ok (.iload 10, 2) := by decide +kernel
theorem dX8_heards_106 : decode cX8_heards 106 = .ok (.ior, 1) := by decide +kernel
theorem dX8_heards_107 : decode cX8_heards 107 = .ok (.istore 9, 2) := by decide +kernel
theorem dX8_heards_109 : decode cX8_heards 109 = .ok (.iinc 10 1, 3) := by decide +kernel
theorem dX8_heards_112 : decode cX8_heards 112 = .ok (.goto (-49), 3) := by decide +kernel
theorem dX8_heards_115 : decode cX8_heards 115 = .ok (.aload_n 0, 1) := by decide +kernel
theorem dX8_heards_116 : decode cX8_heards 116 = .ok (.getfield 19, 3) := by decide +kernel
theorem dX8_heards_119 : decode cX8_heards 119 = .ok (.iconst 5, 1) := by decide +kernel
theorem dX8_heards_120 : decode cX8_heards 120 = .ok (.iload_n 2, 1) := by decide +kernel
theorem dX8_heards_121 : decode cX8_heards 121 = .ok (.imul, 1) := by decide +kernel
theorem dX8_heards_122 : decode cX8_heards 122 = .ok (.iconst 3, 1) := by decide +kernel
theorem dX8_heards_123 : decode cX8_heards 123 = .ok (.iadd, 1) := by decide +kernel
theorem dX8_heards_124 : decode cX8_heards 124 = .ok (.iload 5, 2) := by decide +kernel
theorem dX8_heards_126 : decode cX8_heards 126 = .ok (.iastore, 1) := by decide +kernel
theorem dX8_heards_127 : decode cX8_heards 127 = .ok (.iload_n 3, 1) := by decide +kernel
theorem dX8_heards_128 : decode cX8_heards 128 = .ok (.ifCond .ne 8, 3) := by decide +kernel
theorem dX8_heards_131 : decode cX8_heards 131 = .ok (.iload 7, 2) := by decide +kernel
theorem dX8_heards_133 : decode cX8_heards 133 = .ok (.goto 29, 3) := by decide +kernel
theorem dX8_heards_136 : decode cX8_heards 136 = .ok (.iload 7, 2) := by decide +kernel
theorem dX8_heards_138 : decode cX8_heards 138 = .ok (.ifCond .ne 7, 3) := by decide +kernel
theorem dX8_heards_141 : decode cX8_heards 141 = .ok (.iconst (-1), 1) := by decide +kernel
theorem dX8_heards_142 : decode cX8_heards 142 = .ok (.goto 20, 3) := by decide +kernel
theorem dX8_heards_145 : decode cX8_heards 145 = .ok (.iload_n 3, 1) := by decide +kernel
theorem dX8_heards_146 : decode cX8_heards 146 = .ok (.iconst 1, 1) := by decide +kernel
theorem dX8_heards_147 : decode cX8_heards 147 = .ok (.if_icmp .ne 8, 3) := by decide +kernel
theorem dX8_heards_150 : decode cX8_heards 150 = .ok (.iload 8, 2) := by decide +kernel
theorem dX8_heards_152 : decode cX8_heards 152 = .ok (.goto 10, 3) := by decide +kernel
theorem dX8_heards_155 : decode cX8_heards 155 = .ok (.iload 6, 2) := by decide +kernel
theorem dX8_heards_157 : decode cX8_heards 157 = .ok (.iload 9, 2) := by decide +kernel
theorem dX8_heards_159 : decode cX8_heards 159 = .ok (.iconst (-1), 1) := by decide +kernel
theorem dX8_heards_160 : decode cX8_heards 160 = .ok (.ixor, 1) := by decide +kernel
theorem dX8_heards_161 : decode cX8_heards 161 = .ok (.iand, 1) := by decide +kernel
theorem dX8_heards_162 : decode cX8_heards 162 = .ok (.ireturn, 1) := by decide +kernel
theorem dX8_kinds_0 : decode cX8_kinds 0 = .ok (.aload_n 0, 1) := by decide +kernel
theorem dX8_kinds_1 : decode cX8_kinds 1 = .ok (.iload_n 1, 1) := by decide +kernel
theorem dX8_kinds_2 : decode cX8_kinds 2 = .ok (.iload_n 2, 1) := by decide +kernel
theorem dX8_kinds_3 : decode cX8_kinds 3 = .ok (.invokevirtual 276, 3) := by decide +kernel
theorem dX8_kinds_6 : decode cX8_kinds 6 = .ok (.istore 4, 2) := by decide +kernel
theorem dX8_kinds_8 : decode cX8_kinds 8 = .ok (.iload 4, 2) := by decide +kernel
theorem dX8_kinds_10 : decode cX8_kinds 10 = .ok (.ifCond .eq 6, 3) := by decide +kernel
theorem dX8_kinds_13 : decode cX8_kinds 13 = .ok (.iload 4, 2) := by decide +kernel
theorem dX8_kinds_15 : decode cX8_kinds 15 = .ok (.ireturn, 1) := by decide +kernel
theorem dX8_kinds_16 : decode cX8_kinds 16 = .ok (.iload_n 3, 1) := by decide +kernel
theorem dX8_kinds_17 : decode cX8_kinds 17 = .ok (.ifCond .ge 7, 3) := by decide +kernel
theorem dX8_kinds_20 : decode cX8_kinds 20 = .ok (.iconst (-1), 1) := by decide +kernel
theorem dX8_kinds_21 : decode cX8_kinds 21 = .ok (.goto 7, 3) := by decide +kernel
theorem dX8_kinds_24 : decode cX8_kinds 24 = .ok (.iload_n 3, 1) := by decide +kernel
theorem dX8_kinds_25 : decode cX8_kinds 25 = .ok (.bipush 10, 2) := by decide +kernel
theorem dX8_kinds_27 : decode cX8_kinds 27 = .ok (.idiv, 1) := by decide +kernel
theorem dX8_kinds_28 : decode cX8_kinds 28 = .ok (.istore 5, 2) := by decide +kernel
theorem dX8_kinds_30 : decode cX8_kinds 30 = .ok (.aload_n 0, 1) := by decide +kernel
theorem dX8_kinds_31 : decode cX8_kinds 31 = .ok (.iload 5, 2) := by decide +kernel
theorem dX8_kinds_33 : decode cX8_kinds 33 = .ok (.invokevirtual 174, 3) := by decide +kernel
theorem dX8_kinds_36 : decode cX8_kinds 36 = .ok (.ifCond .ne 6, 3) := by decide +kernel
theorem dX8_kinds_39 : decode cX8_kinds 39 = .ok (.bipush (-5), 2) := by decide +kernel
theorem dX8_kinds_41 : decode cX8_kinds 41 = .ok (.ireturn, 1) := by decide +kernel
theorem dX8_kinds_42 : decode cX8_kinds 42 = .ok (.iload_n 3, 1) := by decide +kernel
theorem dX8_kinds_43 : decode cX8_kinds 43 = .ok (.bipush 10, 2) := by decide +kernel
theorem dX8_kinds_45 : decode cX8_kinds 45 = .ok (.irem, 1) := by decide +kernel
theorem dX8_kinds_46 : decode cX8_kinds 46 = .ok (.istore 6, 2) := by decide +kernel
theorem dX8_kinds_48 : decode cX8_kinds 48 = .ok (.iload 6, 2) := by decide +kernel
theorem dX8_kinds_50 : decode cX8_kinds 50 = .ok (.iconst 0, 1) := by decide +kernel
theorem dX8_kinds_51 : decode cX8_kinds 51 = .ok (.iconst 1, 1) := by decide +kernel
theorem dX8_kinds_52 : decode cX8_kinds 52 = .ok (.invokestatic 78, 3) := by decide +kernel
theorem dX8_kinds_55 : decode cX8_kinds 55 = .ok (.ifCond .ne 6, 3) := by decide +kernel
theorem dX8_kinds_58 : decode cX8_kinds 58 = .ok (.bipush (-7), 2) := by decide +kernel
theorem dX8_kinds_60 : decode cX8_kinds 60 = .ok (.ireturn, 1) := by decide +kernel
theorem dX8_kinds_61 : decode cX8_kinds 61 = .ok (.aload_n 0, 1) := by decide +kernel
theorem dX8_kinds_62 : decode cX8_kinds 62 = .ok (.getfield 7, 3) := by decide +kernel
theorem dX8_kinds_65 : decode cX8_kinds 65 = .ok (.iload 5, 2) := by decide +kernel
theorem dX8_kinds_67 : decode cX8_kinds 67 = .ok (.iaload, 1) := by decide +kernel
theorem dX8_kinds_68 : decode cX8_kinds 68 = .ok (.istore 7, 2) := by decide +kernel
theorem dX8_kinds_70 : decode cX8_kinds 70 = .ok (.aload_n 0, 1) := by decide +kernel
theorem dX8_kinds_71 : decode cX8_kinds 71 = .ok (.getfield 13, 3) := by decide +kernel
theorem dX8_kinds_74 : decode cX8_kinds 74 = .ok (.iload 5, 2) := by decide +kernel
theorem dX8_kinds_76 : decode cX8_kinds 76 = .ok (.iaload, 1) := by decide +kernel
theorem dX8_kinds_77 : decode cX8_kinds 77 = .ok (.istore 8, 2) := by decide +kernel
theorem dX8_kinds_79 : decode cX8_kinds 79 = .ok (.iconst 0, 1) := by decide +kernel
theorem dX8_kinds_80 : decode cX8_kinds 80 = .ok (.istore 9, 2) := by decide +kernel
theorem dX8_kinds_82 : decode cX8_kinds 82 = .ok (.iconst 0, 1) := by decide +kernel
theorem dX8_kinds_83 : decode cX8_kinds 83 = .ok (.istore 10, 2) := by decide +kernel
theorem dX8_kinds_85 : decode cX8_kinds 85 = .ok (.iload 10, 2) := by decide +kernel
theorem dX8_kinds_87 : decode cX8_kinds 87 = .ok (.iload 6, 2) := by decide +kernel
theorem dX8_kinds_89 : decode cX8_kinds 89 = .ok (.ifCond .ne 8, 3) := by decide +kernel
theorem dX8_kinds_92 : decode cX8_kinds 92 = .ok (.bipush 6, 2) := by decide +kernel
theorem dX8_kinds_94 : decode cX8_kinds 94 = .ok (.goto 5, 3) := by decide +kernel
theorem dX8_kinds_97 : decode cX8_kinds 97 = .ok (.bipush 10, 2) := by decide +kernel
theorem dX8_kinds_99 : decode cX8_kinds 99 = .ok (.if_icmp .ge 71, 3) := by decide +kernel
theorem dX8_kinds_102 : decode cX8_kinds 102 = .ok (.aload_n 0, 1) := by decide +kernel
theorem dX8_kinds_103 : decode cX8_kinds 103 = .ok (.getfield 7, 3) := by decide +kernel
theorem dX8_kinds_106 : decode cX8_kinds 106 = .ok (.iload 5, 2) := by decide +kernel
theorem dX8_kinds_108 : decode cX8_kinds 108 = .ok (.iload 6, 2) := by decide +kernel
theorem dX8_kinds_110 : decode cX8_kinds 110 = .ok (.ifCond .ne 8, 3) := by decide +kernel
theorem dX8_kinds_113 : decode cX8_kinds 113 = .ok (.iload 10, 2) := by decide +kernel
theorem dX8_kinds_115 : decode cX8_kinds 115 = .ok (.goto 5, 3) := by decide +kernel
theorem dX8_kinds_118 : decode cX8_kinds 118 = .ok (.iload 7, 2) := by decide +kernel
theorem dX8_kinds_120 : decode cX8_kinds 120 = .ok (.iastore, 1) := by decide +kernel
theorem dX8_kinds_121 : decode cX8_kinds 121 = .ok (.aload_n 0, 1) := by decide +kernel
theorem dX8_kinds_122 : decode cX8_kinds 122 = .ok (.getfield 13, 3) := by decide +kernel
theorem dX8_kinds_125 : decode cX8_kinds 125 = .ok (.iload 5, 2) := by decide +kernel
theorem dX8_kinds_127 : decode cX8_kinds 127 = .ok (.iload 6, 2) := by decide +kernel
theorem dX8_kinds_129 : decode cX8_kinds 129 = .ok (.iconst 1, 1) := by decide +kernel
theorem dX8_kinds_130 : decode cX8_kinds 130 = .ok (.if_icmp .ne 8, 3) := by decide +kernel
theorem dX8_kinds_133 : decode cX8_kinds 133 = .ok (.iload 10, 2) := by decide +kernel
theorem dX8_kinds_135 : decode cX8_kinds 135 = .ok (.goto 5, 3) := by decide +kernel
theorem dX8_kinds_138 : decode cX8_kinds 138 = .ok (.iload 8, 2) := by decide +kernel
theorem dX8_kinds_140 : decode cX8_kinds 140 = .ok (.iastore, 1) := by decide +kernel
theorem dX8_kinds_141 : decode cX8_kinds 141 = .ok (.iload 9, 2) := by decide +kernel
theorem dX8_kinds_143 : decode cX8_kinds 143 = .ok (.aload_n 0, 1) := by decide +kernel
theorem dX8_kinds_144 : decode cX8_kinds 144 = .ok (.iload_n 1, 1) := by decide +kernel
theorem dX8_kinds_145 : decode cX8_kinds 145 = .ok (.iload_n 2, 1) := by decide +kernel
theorem dX8_kinds_146 : decode cX8_kinds 146 = .ok (.invokevirtual 279, 3) := by decide +kernel
theorem dX8_kinds_149 : decode cX8_kinds 149 = .ok (.iconst (-1), 1) := by decide +kernel
theorem dX8_kinds_150 : decode cX8_kinds 150 = .ok (.if_icmp .ne 10, 3) := by decide +kernel
theorem dX8_kinds_153 : decode cX8_kinds 153 = .ok (.iconst 1, 1) := by decide +kernel
theorem dX8_kinds_154 : decode cX8_kinds 154 = .ok (.iload 10, 2) := by decide +kernel
theorem dX8_kinds_156 : decode cX8_kinds 156 = .ok (.ishl, 1) := by decide +kernel
theorem dX8_kinds_157 : decode cX8_kinds 157 = .ok (.goto 4, 3) := by decide +kernel
theorem dX8_kinds_160 : decode cX8_kinds 160 = .ok (.iconst 0, 1) := by decide +kernel
theorem dX8_kinds_161 : decode cX8_kinds 161 = .ok (.ior, 1) := by decide +kernel
theorem dX8_kinds_162 : decode cX8_kinds 162 = .ok (.istore 9, 2) := by decide +kernel
theorem dX8_kinds_164 : decode cX8_kinds 164 = .ok (.iinc 10 1, 3) := by decide +kernel
theorem dX8_kinds_167 : decode cX8_kinds 167 = .ok (.goto (-82), 3) := by decide +kernel
theorem dX8_kinds_170 : decode cX8_kinds 170 = .ok (.aload_n 0, 1) := by decide +kernel
theorem dX8_kinds_171 : decode cX8_kinds 171 = .ok (.getfield 7, 3) := by decide +kernel
theorem dX8_kinds_174 : decode cX8_kinds 174 = .ok (.iload 5, 2) := by decide +kernel
theorem dX8_kinds_176 : decode cX8_kinds 176 = .ok (.iload 7, 2) := by decide +kernel
theorem dX8_kinds_178 : decode cX8_kinds 178 = .ok (.iastore, 1) := by decide +kernel
theorem dX8_kinds_179 : decode cX8_kinds 179 = .ok (.aload_n 0, 1) := by decide +kernel
theorem dX8_kinds_180 : decode cX8_kinds 180 = .ok (.getfield 13, 3) := by decide +kernel
theorem dX8_kinds_183 : decode cX8_kinds 183 = .ok (.iload 5, 2) := by decide +kernel
theorem dX8_kinds_185 : decode cX8_kinds 185 = .ok (.iload 8, 2) := by decide +kernel
theorem dX8_kinds_187 : decode cX8_kinds 187 = .ok (.iastore, 1) := by decide +kernel
theorem dX8_kinds_188 : decode cX8_kinds 188 = .ok (.iload 9, 2) := by decide +kernel
theorem dX8_kinds_190 : decode cX8_kinds 190 = .ok (.ireturn, 1) := by decide +kernel
theorem dX8_wear_0 : decode cX8_wear 0 = .ok (.aload_n 0, 1) := by decide +kernel
theorem dX8_wear_1 : decode cX8_wear 1 = .ok (.iload_n 1, 1) := by decide +kernel
theorem dX8_wear_2 : decode cX8_wear 2 = .ok (.iload_n 2, 1) := by decide +kernel
theorem dX8_wear_3 : decode cX8_wear 3 = .ok (.invokevirtual 276, 3) := by decide +kernel
theorem dX8_wear_6 : decode cX8_wear 6 = .ok (.istore 4, 2) := by decide +kernel
theorem dX8_wear_8 : decode cX8_wear 8 = .ok (.iload 4, 2) := by decide +kernel
theorem dX8_wear_10 : decode cX8_wear 10 = .ok (.ifCond .eq 6, 3) := by decide +kernel
theorem dX8_wear_13 : decode cX8_wear 13 = .ok (.iload 4, 2) := by decide +kernel
theorem dX8_wear_15 : decode cX8_wear 15 = .ok (.ireturn, 1) := by decide +kernel
theorem dX8_wear_16 : decode cX8_wear 16 = .ok (.iload_n 3, 1) := by decide +kernel
theorem dX8_wear_17 : decode cX8_wear 17 = .ok (.ifCond .ge 7, 3) := by decide +kernel
theorem dX8_wear_20 : decode cX8_wear 20 = .ok (.iconst (-1), 1) := by decide +kernel
theorem dX8_wear_21 : decode cX8_wear 21 = .ok (.goto 7, 3) := by decide +kernel
theorem dX8_wear_24 : decode cX8_wear 24 = .ok (.iload_n 3, 1) := by decide +kernel
theorem dX8_wear_25 : decode cX8_wear 25 = .ok (.bipush 10, 2) := by decide +kernel
theorem dX8_wear_27 : decode cX8_wear 27 = .ok (.idiv, 1) := by decide +kernel
theorem dX8_wear_28 : decode cX8_wear 28 = .ok (.istore 5, 2) := by decide +kernel
theorem dX8_wear_30 : decode cX8_wear 30 = .ok (.aload_n 0, 1) := by decide +kernel
theorem dX8_wear_31 : decode cX8_wear 31 = .ok (.iload 5, 2) := by decide +kernel
theorem dX8_wear_33 : decode cX8_wear 33 = .ok (.invokevirtual 174, 3) := by decide +kernel
theorem dX8_wear_36 : decode cX8_wear 36 = .ok (.ifCond .ne 6, 3) := by decide +kernel
theorem dX8_wear_39 : decode cX8_wear 39 = .ok (.bipush (-5), 2) := by decide +kernel
theorem dX8_wear_41 : decode cX8_wear 41 = .ok (.ireturn, 1) := by decide +kernel
theorem dX8_wear_42 : decode cX8_wear 42 = .ok (.iload_n 3, 1) := by decide +kernel
theorem dX8_wear_43 : decode cX8_wear 43 = .ok (.bipush 10, 2) := by decide +kernel
theorem dX8_wear_45 : decode cX8_wear 45 = .ok (.irem, 1) := by decide +kernel
theorem dX8_wear_46 : decode cX8_wear 46 = .ok (.istore 6, 2) := by decide +kernel
theorem dX8_wear_48 : decode cX8_wear 48 = .ok (.iload 6, 2) := by decide +kernel
theorem dX8_wear_50 : decode cX8_wear 50 = .ok (.iconst 0, 1) := by decide +kernel
theorem dX8_wear_51 : decode cX8_wear 51 = .ok (.iconst 1, 1) := by decide +kernel
theorem dX8_wear_52 : decode cX8_wear 52 = .ok (.invokestatic 78, 3) := by decide +kernel
theorem dX8_wear_55 : decode cX8_wear 55 = .ok (.ifCond .ne 6, 3) := by decide +kernel
theorem dX8_wear_58 : decode cX8_wear 58 = .ok (.bipush (-7), 2) := by decide +kernel
theorem dX8_wear_60 : decode cX8_wear 60 = .ok (.ireturn, 1) := by decide +kernel
theorem dX8_wear_61 : decode cX8_wear 61 = .ok (.aload_n 0, 1) := by decide +kernel
theorem dX8_wear_62 : decode cX8_wear 62 = .ok (.getfield 16, 3) := by decide +kernel
theorem dX8_wear_65 : decode cX8_wear 65 = .ok (.iload 5, 2) := by decide +kernel
theorem dX8_wear_67 : decode cX8_wear 67 = .ok (.iaload, 1) := by decide +kernel
theorem dX8_wear_68 : decode cX8_wear 68 = .ok (.istore 7, 2) := by decide +kernel
theorem dX8_wear_70 : decode cX8_wear 70 = .ok (.iconst 0, 1) := by decide +kernel
theorem dX8_wear_71 : decode cX8_wear 71 = .ok (.istore 8, 2) := by decide +kernel
theorem dX8_wear_73 : decode cX8_wear 73 = .ok (.iconst (-1), 1) := by decide +kernel
theorem dX8_wear_74 : decode cX8_wear 74 = .ok (.istore 9, 2) := by decide +kernel
theorem dX8_wear_76 : decode cX8_wear 76 = .ok (.iconst 0, 1) := by decide +kernel
theorem dX8_wear_77 : decode cX8_wear 77 = .ok (.istore 10, 2) := by decide +kernel
theorem dX8_wear_79 : decode cX8_wear 79 = .ok (.iload 10, 2) := by decide +kernel
theorem dX8_wear_81 : decode cX8_wear 81 = .ok (.bipush 100, 2) := by decide +kernel
theorem dX8_wear_83 : decode cX8_wear 83 = .ok (.if_icmp .ge 70, 3) := by decide +kernel
theorem dX8_wear_86 : decode cX8_wear 86 = .ok (.aload_n 0, 1) := by decide +kernel
theorem dX8_wear_87 : decode cX8_wear 87 = .ok (.getfield 16, 3) := by decide +kernel
theorem dX8_wear_90 : decode cX8_wear 90 = .ok (.iload 5, 2) := by decide +kernel
theorem dX8_wear_92 : decode cX8_wear 92 = .ok (.iload 10, 2) := by decide +kernel
theorem dX8_wear_94 : decode cX8_wear 94 = .ok (.iastore, 1) := by decide +kernel
theorem dX8_wear_95 : decode cX8_wear 95 = .ok (.aload_n 0, 1) := by decide +kernel
theorem dX8_wear_96 : decode cX8_wear 96 = .ok (.iload_n 1, 1) := by decide +kernel
theorem dX8_wear_97 : decode cX8_wear 97 = .ok (.iload_n 2, 1) := by decide +kernel
theorem dX8_wear_98 : decode cX8_wear 98 = .ok (.invokevirtual 279, 3) := by decide +kernel
theorem dX8_wear_101 : decode cX8_wear 101 = .ok (.iconst (-1), 1) := by decide +kernel
theorem dX8_wear_102 : decode cX8_wear 102 = .ok (.if_icmp .ne 7, 3) := by decide +kernel
theorem dX8_wear_105 : decode cX8_wear 105 = .ok (.iconst 1, 1) := by decide +kernel
theorem dX8_wear_106 : decode cX8_wear 106 = .ok (.goto 4, 3) := by decide +kernel
theorem dX8_wear_109 : decode cX8_wear 109 = .ok (.iconst 0, 1) := by decide +kernel
theorem dX8_wear_110 : decode cX8_wear 110 = .ok (.istore 11, 2) := by decide +kernel
theorem dX8_wear_112 : decode cX8_wear 112 = .ok (.iload 8, 2) := by decide +kernel
theorem dX8_wear_114 : decode cX8_wear 114 = .ok (.iload 11, 2) := by decide +kernel
theorem dX8_wear_116 : decode cX8_wear 116 = .ok (.ifCond .eq 7, 3) := by decide +kernel
theorem dX8_wear_119 : decode cX8_wear 119 = .ok (.iconst 1, 1) := by decide +kernel
theorem dX8_wear_120 : decode cX8_wear 120 = .ok (.goto 4, 3) := by decide +kernel
theorem dX8_wear_123 : decode cX8_wear 123 = .ok (.iconst 0, 1) := by decide +kernel
theorem dX8_wear_124 : decode cX8_wear 124 = .ok (.iadd, 1) := by decide +kernel
theorem dX8_wear_125 : decode cX8_wear 125 = .ok (.istore 8, 2) := by decide +kernel
theorem dX8_wear_127 : decode cX8_wear 127 = .ok (.iload 11, 2) := by decide +kernel
theorem dX8_wear_129 : decode cX8_wear 129 = .ok (.ifCond .eq 14, 3) := by decide +kernel
theorem dX8_wear_132 : decode cX8_wear 132 = .ok (.iload 9, 2) := by decide +kernel
theorem dX8_wear_134 : decode cX8_wear 134 = .ok (.iconst (-1), 1) := by decide +kernel
theorem dX8_wear_135 : decode cX8_wear 135 = .ok (.if_icmp .ne 8, 3) := by decide +kernel
theorem dX8_wear_138 : decode cX8_wear 138 = .ok (.iload 10, 2) := by decide +kernel
theorem dX8_wear_140 : decode cX8_wear 140 = .ok (.goto 5, 3) := by decide +kernel
theorem dX8_wear_143 : decode cX8_wear 143 = .ok (.iload 9, 2) := by decide +kernel
theorem dX8_wear_145 : decode cX8_wear 145 = .ok (.istore 9, 2) := by decide +kernel
theorem dX8_wear_147 : decode cX8_wear 147 = .ok (.iinc 10 1, 3) := by decide +kernel
theorem dX8_wear_150 : decode cX8_wear 150 = .ok (.goto (-71), 3) := by decide +kernel
theorem dX8_wear_153 : decode cX8_wear 153 = .ok (.aload_n 0, 1) := by decide +kernel
theorem dX8_wear_154 : decode cX8_wear 154 = .ok (.getfield 16, 3) := by decide +kernel
theorem dX8_wear_157 : decode cX8_wear 157 = .ok (.iload 5, 2) := by decide +kernel
theorem dX8_wear_159 : decode cX8_wear 159 = .ok (.iload 7, 2) := by decide +kernel
theorem dX8_wear_161 : decode cX8_wear 161 = .ok (.iastore, 1) := by decide +kernel
theorem dX8_wear_162 : decode cX8_wear 162 = .ok (.iload 6, 2) := by decide +kernel
theorem dX8_wear_164 : decode cX8_wear 164 = .ok (.ifCond .ne 8, 3) := by decide +kernel
theorem dX8_wear_167 : decode cX8_wear 167 = .ok (.iload 8, 2) := by decide +kernel
theorem dX8_wear_169 : decode cX8_wear 169 = .ok (.goto 5, 3) := by decide +kernel
theorem dX8_wear_172 : decode cX8_wear 172 = .ok (.iload 9, 2) := by decide +kernel
theorem dX8_wear_174 : decode cX8_wear 174 = .ok (.ireturn, 1) := by decide +kernel
theorem dX8_whose_0 : decode cX8_whose 0 = .ok (.aload_n 0, 1) := by decide +kernel
theorem dX8_whose_1 : decode cX8_whose 1 = .ok (.iload_n 1, 1) := by decide +kernel
theorem dX8_whose_2 : decode cX8_whose 2 = .ok (.invokevirtual 273, 3) := by decide +kernel
theorem dX8_whose_5 : decode cX8_whose 5 = .ok (.istore_n 2, 1) := by decide +kernel
theorem dX8_whose_6 : decode cX8_whose 6 = .ok (.iload_n 2, 1) := by decide +kernel
theorem dX8_whose_7 : decode cX8_whose 7 = .ok (.ifCond .eq 5, 3) := by decide +kernel
theorem dX8_whose_10 : decode cX8_whose 10 = .ok (.iload_n 2, 1) := by decide +kernel
theorem dX8_whose_11 : decode cX8_whose 11 = .ok (.ireturn, 1) := by decide +kernel
theorem dX8_whose_12 : decode cX8_whose 12 = .ok (.iconst 0, 1) := by decide +kernel
theorem dX8_whose_13 : decode cX8_whose 13 = .ok (.istore_n 3, 1) := by decide +kernel
theorem dX8_whose_14 : decode cX8_whose 14 = .ok (.iconst 0, 1) := by decide +kernel
theorem dX8_whose_15 : decode cX8_whose 15 = .ok (.istore 4, 2) := by decide +kernel
theorem dX8_whose_17 : decode cX8_whose 17 = .ok (.iload 4, 2) := by decide +kernel
theorem dX8_whose_19 : decode cX8_whose 19 = .ok (.aload_n 0, 1) := by decide +kernel
theorem dX8_whose_20 : decode cX8_whose 20 = .ok (.getfield 82, 3) := by decide +kernel
theorem dX8_whose_23 : decode cX8_whose 23 = .ok (.if_icmp .ge 31, 3) := by decide +kernel
theorem dX8_whose_26 : decode cX8_whose 26 = .ok (.iload_n 3, 1) := by decide +kernel
theorem dX8_whose_27 : decode cX8_whose 27 = .ok (.aload_n 0, 1) := by decide +kernel
theorem dX8_whose_28 : decode cX8_whose 28 = .ok (.iload_n 1, 1) := by decide +kernel
theorem dX8_whose_29 : decode cX8_whose 29 = .ok (.iload 4, 2) := by decide +kernel
theorem dX8_whose_31 : decode cX8_whose 31 = .ok (.invokevirtual 279, 3) := by decide +kernel
theorem dX8_whose_34 : decode cX8_whose 34 = .ok (.iconst (-1), 1) := by decide +kernel
theorem dX8_whose_35 : decode cX8_whose 35 = .ok (.if_icmp .ne 10, 3) := by decide +kernel
theorem dX8_whose_38 : decode cX8_whose 38 = .ok (.iconst 1, 1) := by decide +kernel
theorem dX8_whose_39 : decode cX8_whose 39 = .ok (.iload 4, 2) := by decide +kernel
theorem dX8_whose_41 : decode cX8_whose 41 = .ok (.ishl, 1) := by decide +kernel
theorem dX8_whose_42 : decode cX8_whose 42 = .ok (.goto 4, 3) := by decide +kernel
theorem dX8_whose_45 : decode cX8_whose 45 = .ok (.iconst 0, 1) := by decide +kernel
theorem dX8_whose_46 : decode cX8_whose 46 = .ok (.ior, 1) := by decide +kernel
theorem dX8_whose_47 : decode cX8_whose 47 = .ok (.istore_n 3, 1) := by decide +kernel
theorem dX8_whose_48 : decode cX8_whose 48 = .ok (.iinc 4 1, 3) := by decide +kernel
theorem dX8_whose_51 : decode cX8_whose 51 = .ok (.goto (-34), 3) := by decide +kernel
theorem dX8_whose_54 : decode cX8_whose 54 = .ok (.iload_n 3, 1) := by decide +kernel
theorem dX8_whose_55 : decode cX8_whose 55 = .ok (.ireturn, 1) := by decide +kernel
theorem dX8_laws_0 : decode cX8_laws 0 = .ok (.aload_n 0, 1) := by decide +kernel
theorem dX8_laws_1 : decode cX8_laws 1 = .ok (.iload_n 1, 1) := by decide +kernel
theorem dX8_laws_2 : decode cX8_laws 2 = .ok (.iload_n 2, 1) := by decide +kernel
theorem dX8_laws_3 : decode cX8_laws 3 = .ok (.invokevirtual 276, 3) := by decide +kernel
theorem dX8_laws_6 : decode cX8_laws 6 = .ok (.istore_n 3, 1) := by decide +kernel
theorem dX8_laws_7 : decode cX8_laws 7 = .ok (.iload_n 3, 1) := by decide +kernel
theorem dX8_laws_8 : decode cX8_laws 8 = .ok (.ifCond .eq 5, 3) := by decide +kernel
theorem dX8_laws_11 : decode cX8_laws 11 = .ok (.iload_n 3, 1) := by decide +kernel
theorem dX8_laws_12 : decode cX8_laws 12 = .ok (.ireturn, 1) := by decide +kernel
theorem dX8_laws_13 : decode cX8_laws 13 = .ok (.aload_n 0, 1) := by decide +kernel
theorem dX8_laws_14 : decode cX8_laws 14 = .ok (.getfield 94, 3) := by decide +kernel
theorem dX8_laws_17 : decode cX8_laws 17 = .ok (.istore 4, 2) := by decide +kernel
theorem dX8_laws_19 : decode cX8_laws 19 = .ok (.iconst 0, 1) := by decide +kernel
theorem dX8_laws_20 : decode cX8_laws 20 = .ok (.istore 5, 2) := by decide +kernel
theorem dX8_laws_22 : decode cX8_laws 22 = .ok (.iconst 0, 1) := by decide +kernel
theorem dX8_laws_23 : decode cX8_laws 23 = .ok (.istore 6, 2) := by decide +kernel
theorem dX8_laws_25 : decode cX8_laws 25 = .ok (.iload 6, 2) := by decide +kernel
theorem dX8_laws_27 : decode cX8_laws 27 = .ok (.aload_n 0, 1) := by decide +kernel
theorem dX8_laws_28 : decode cX8_laws 28 = .ok (.getfield 91, 3) := by decide +kernel
theorem dX8_laws_31 : decode cX8_laws 31 = .ok (.if_icmp .ge 38, 3) := by decide +kernel
theorem dX8_laws_34 : decode cX8_laws 34 = .ok (.aload_n 0, 1) := by decide +kernel
theorem dX8_laws_35 : decode cX8_laws 35 = .ok (.iload 6, 2) := by decide +kernel
theorem dX8_laws_37 : decode cX8_laws 37 = .ok (.putfield 94, 3) := by decide +kernel
theorem dX8_laws_40 : decode cX8_laws 40 = .ok (.iload 5, 2) := by decide +kernel
theorem dX8_laws_42 : decode cX8_laws 42 = .ok (.aload_n 0, 1) := by decide +kernel
theorem dX8_laws_43 : decode cX8_laws 43 = .ok (.iload_n 1, 1) := by decide +kernel
theorem dX8_laws_44 : decode cX8_laws 44 = .ok (.iload_n 2, 1) := by decide +kernel
theorem dX8_laws_45 : decode cX8_laws 45 = .ok (.invokevirtual 279, 3) := by decide +kernel
theorem dX8_laws_48 : decode cX8_laws 48 = .ok (.iconst (-1), 1) := by decide +kernel
theorem dX8_laws_49 : decode cX8_laws 49 = .ok (.if_icmp .ne 10, 3) := by decide +kernel
theorem dX8_laws_52 : decode cX8_laws 52 = .ok (.iconst 1, 1) := by decide +kernel
theorem dX8_laws_53 : decode cX8_laws 53 = .ok (.iload 6, 2) := by decide +kernel
theorem dX8_laws_55 : decode cX8_laws 55 = .ok (.ishl, 1) := by decide +kernel
theorem dX8_laws_56 : decode cX8_laws 56 = .ok (.goto 4, 3) := by decide +kernel
theorem dX8_laws_59 : decode cX8_laws 59 = .ok (.iconst 0, 1) := by decide +kernel
theorem dX8_laws_60 : decode cX8_laws 60 = .ok (.ior, 1) := by decide +kernel
theorem dX8_laws_61 : decode cX8_laws 61 = .ok (.istore 5, 2) := by decide +kernel
theorem dX8_laws_63 : decode cX8_laws 63 = .ok (.iinc 6 1, 3) := by decide +kernel
theorem dX8_laws_66 : decode cX8_laws 66 = .ok (.goto (-41), 3) := by decide +kernel
theorem dX8_laws_69 : decode cX8_laws 69 = .ok (.aload_n 0, 1) := by decide +kernel
theorem dX8_laws_70 : decode cX8_laws 70 = .ok (.iload 4, 2) := by decide +kernel
theorem dX8_laws_72 : decode cX8_laws 72 = .ok (.putfield 94, 3) := by decide +kernel
theorem dX8_laws_75 : decode cX8_laws 75 = .ok (.iload 5, 2) := by decide +kernel
theorem dX8_laws_77 : decode cX8_laws 77 = .ok (.ireturn, 1) := by decide +kernel
theorem dX8_amiss_0 : decode cX8_amiss 0 = .ok (.aload_n 0, 1) := by decide +kernel
theorem dX8_amiss_1 : decode cX8_amiss 1 = .ok (.iload_n 1, 1) := by decide +kernel
theorem dX8_amiss_2 : decode cX8_amiss 2 = .ok (.iload_n 2, 1) := by decide +kernel
theorem dX8_amiss_3 : decode cX8_amiss 3 = .ok (.invokevirtual 276, 3) := by decide +kernel
theorem dX8_amiss_6 : decode cX8_amiss 6 = .ok (.ifCond .eq 7, 3) := by decide +kernel
theorem dX8_amiss_9 : decode cX8_amiss 9 = .ok (.ldc2_w 253, 3) := by decide +kernel
theorem dX8_amiss_12 : decode cX8_amiss 12 = .ok (.lreturn, 1) := by decide +kernel
theorem dX8_amiss_13 : decode cX8_amiss 13 = .ok (.lconst 0, 1) := by decide +kernel
theorem dX8_amiss_14 : decode cX8_amiss 14 = .ok (.lstore_n 3, 1) := by decide +kernel
theorem dX8_amiss_15 : decode cX8_amiss 15 = .ok (.iconst 0, 1) := by decide +kernel
theorem dX8_amiss_16 : decode cX8_amiss 16 = .ok (.istore 5, 2) := by decide +kernel
theorem dX8_amiss_18 : decode cX8_amiss 18 = .ok (.iload 5, 2) := by decide +kernel
theorem dX8_amiss_20 : decode cX8_amiss 20 = .ok (.aload_n 0, 1) := by decide +kernel
theorem dX8_amiss_21 : decode cX8_amiss 21 = .ok (.getfield 75, 3) := by decide +kernel
theorem dX8_amiss_24 : decode cX8_amiss 24 = .ok (.if_icmp .ge 73, 3) := by decide +kernel
theorem dX8_amiss_27 : decode cX8_amiss 27 = .ok (.aload_n 0, 1) := by decide +kernel
theorem dX8_amiss_28 : decode cX8_amiss 28 = .ok (.getfield 43, 3) := by decide +kernel
theorem dX8_amiss_31 : decode cX8_amiss 31 = .ok (.bipush 40, 2) := by decide +kernel
theorem dX8_amiss_33 : decode cX8_amiss 33 = .ok (.iload_n 1, 1) := by decide +kernel
theorem dX8_amiss_34 : decode cX8_amiss 34 = .ok (.imul, 1) := by decide +kernel
theorem dX8_amiss_35 : decode cX8_amiss 35 = .ok (.iload 5, 2) := by decide +kernel
theorem dX8_amiss_37 : decode cX8_amiss 37 = .ok (.iadd, 1) := by decide +kernel
theorem dX8_amiss_38 : decode cX8_amiss 38 = .ok (.iaload, 1) := by decide +kernel
theorem dX8_amiss_39 : decode cX8_amiss 39 = .ok (.i2l, 1) := by decide +kernel
theorem dX8_amiss_40 : decode cX8_amiss 40 = .ok (.aload_n 0, 1) := by decide +kernel
theorem dX8_amiss_41 : decode cX8_amiss 41 = .ok (.iload 5, 2) := by decide +kernel
theorem dX8_amiss_43 : decode cX8_amiss 43 = .ok (.iload_n 2, 1) := by decide +kernel
theorem dX8_amiss_44 : decode cX8_amiss 44 = .ok (.invokevirtual 190, 3) := by decide +kernel
theorem dX8_amiss_47 : decode cX8_amiss 47 = .ok (.i2l, 1) := by decide +kernel
theorem dX8_amiss_48 : decode cX8_amiss 48 = .ok (.lsub, 1) := by decide +kernel
theorem dX8_amiss_49 : decode cX8_amiss 49 = .ok (.lstore 6, 2) := by decide +kernel
theorem dX8_amiss_51 : decode cX8_amiss 51 = .ok (.lload_n 3, 1) := by decide +kernel
theorem dX8_amiss_52 : decode cX8_amiss 52 = .ok (.lload 6, 2) := by decide +kernel
theorem dX8_amiss_54 : decode cX8_amiss 54 = .ok (.lconst 0, 1) := by decide +kernel
theorem dX8_amiss_55 : decode cX8_amiss 55 = .ok (.lcmp, 1) := by decide +kernel
theorem dX8_amiss_56 : decode cX8_amiss 56 = .ok (.ifCond .ge 9, 3) := by decide +kernel
theorem dX8_amiss_59 : decode cX8_amiss 59 = .ok (.lload 6, 2) := by decide +kernel
theorem dX8_amiss_61 : decode cX8_amiss 61 = .ok (.lneg, 1) := by decide +kernel
theorem dX8_amiss_62 : decode cX8_amiss 62 = .ok (.goto 5, 3) := by decide +kernel
theorem dX8_amiss_65 : decode cX8_amiss 65 = .ok (.lload 6, 2) := by decide +kernel
theorem dX8_amiss_67 : decode cX8_amiss 67 = .ok (.aload_n 0, 1) := by decide +kernel
theorem dX8_amiss_68 : decode cX8_amiss 68 = .ok (.iconst 2, 1) := by decide +kernel
theorem dX8_amiss_69 : decode cX8_amiss 69 = .ok (.aload_n 0, 1) := by decide +kernel
theorem dX8_amiss_70 : decode cX8_amiss 70 = .ok (.getfield 16, 3) := by decide +kernel
theorem dX8_amiss_73 : decode cX8_amiss 73 = .ok (.iload 5, 2) := by decide +kernel
theorem dX8_amiss_75 : decode cX8_amiss 75 = .ok (.iaload, 1) := by decide +kernel
theorem dX8_amiss_76 : decode cX8_amiss 76 = .ok (.iload_n 2, 1) := by decide +kernel
theorem dX8_amiss_77 : decode cX8_amiss 77 = .ok (.aload_n 0, 1) := by decide +kernel
theorem dX8_amiss_78 : decode cX8_amiss 78 = .ok (.getfield 13, 3) := by decide +kernel
theorem dX8_amiss_81 : decode cX8_amiss 81 = .ok (.iload 5, 2) := by decide +kernel
theorem dX8_amiss_83 : decode cX8_amiss 83 = .ok (.iaload, 1) := by decide +kernel
theorem dX8_amiss_84 : decode cX8_amiss 84 = .ok (.invokevirtual 170, 3) := by decide +kernel
theorem dX8_amiss_87 : decode cX8_amiss 87 = .ok (.i2l, 1) := by decide +kernel
theorem dX8_amiss_88 : decode cX8_amiss 88 = .ok (.lmul, 1) := by decide +kernel
theorem dX8_amiss_89 : decode cX8_amiss 89 = .ok (.ladd, 1) := by decide +kernel
theorem dX8_amiss_90 : decode cX8_amiss 90 = .ok (.lstore_n 3, 1) := by decide +kernel
theorem dX8_amiss_91 : decode cX8_amiss 91 = .ok (.iinc 5 1, 3) := by decide +kernel
theorem dX8_amiss_94 : decode cX8_amiss 94 = .ok (.goto (-76), 3) := by decide +kernel
theorem dX8_amiss_97 : decode cX8_amiss 97 = .ok (.lload_n 3, 1) := by decide +kernel
theorem dX8_amiss_98 : decode cX8_amiss 98 = .ok (.lreturn, 1) := by decide +kernel
theorem dX8_film_0 : decode cX8_film 0 = .ok (.iload_n 1, 1) := by decide +kernel
theorem dX8_film_1 : decode cX8_film 1 = .ok (.iconst 0, 1) := by decide +kernel
theorem dX8_film_2 : decode cX8_film 2 = .ok (.iconst 3, 1) := by decide +kernel
theorem dX8_film_3 : decode cX8_film 3 = .ok (.invokestatic 78, 3) := by decide +kernel
theorem dX8_film_6 : decode cX8_film 6 = .ok (.ifCond .ne 6, 3) := by decide +kernel
theorem dX8_film_9 : decode cX8_film 9 = .ok (.bipush (-2), 2) := by decide +kernel
theorem dX8_film_11 : decode cX8_film 11 = .ok (.ireturn, 1) := by decide +kernel
theorem dX8_film_12 : decode cX8_film 12 = .ok (.aload_n 0, 1) := by decide +kernel
theorem dX8_film_13 : decode cX8_film 13 = .ok (.iload_n 2, 1) := by decide +kernel
theorem dX8_film_14 : decode cX8_film 14 = .ok (.invokevirtual 167, 3) := by decide +kernel
theorem dX8_film_17 : decode cX8_film 17 = .ok (.ifCond .ne 6, 3) := by decide +kernel
theorem dX8_film_20 : decode cX8_film 20 = .ok (.bipush (-6), 2) := by decide +kernel
theorem dX8_film_22 : decode cX8_film 22 = .ok (.ireturn, 1) := by decide +kernel
theorem dX8_film_23 : decode cX8_film 23 = .ok (.aload_n 0, 1) := by decide +kernel
theorem dX8_film_24 : decode cX8_film 24 = .ok (.getfield 37, 3) := by decide +kernel
theorem dX8_film_27 : decode cX8_film 27 = .ok (.iload_n 1, 1) := by decide +kernel
theorem dX8_film_28 : decode cX8_film 28 = .ok (.iconst 0, 1) := by decide +kernel
theorem dX8_film_29 : decode cX8_film 29 = .ok (.iastore, 1) := by decide +kernel
theorem dX8_film_30 : decode cX8_film 30 = .ok (.aload_n 0, 1) := by decide +kernel
theorem dX8_film_31 : decode cX8_film 31 = .ok (.getfield 40, 3) := by decide +kernel
theorem dX8_film_34 : decode cX8_film 34 = .ok (.iload_n 1, 1) := by decide +kernel
theorem dX8_film_35 : decode cX8_film 35 = .ok (.aload_n 0, 1) := by decide +kernel
theorem dX8_film_36 : decode cX8_film 36 = .ok (.getfield 75, 3) := by decide +kernel
theorem dX8_film_39 : decode cX8_film 39 = .ok (.iastore, 1) := by decide +kernel
theorem dX8_film_40 : decode cX8_film 40 = .ok (.iconst 0, 1) := by decide +kernel
theorem dX8_film_41 : decode cX8_film 41 = .ok (.istore_n 3, 1) := by decide +kernel
theorem dX8_film_42 : decode cX8_film 42 = .ok (.iload_n 3, 1) := by decide +kernel
theorem dX8_film_43 : decode cX8_film 43 = .ok (.bipush 40, 2) := by decide +kernel
theorem dX8_film_45 : decode cX8_film 45 = .ok (.if_icmp .ge 43, 3) := by decide +kernel
theorem dX8_film_48 : decode cX8_film 48 = .ok (.aload_n 0, 1) := by decide +kernel
theorem dX8_film_49 : decode cX8_film 49 = .ok (.getfield 43, 3) := by decide +kernel
theorem dX8_film_52 : decode cX8_film 52 = .ok (.bipush 40, 2) := by decide +kernel
theorem dX8_film_54 : decode cX8_film 54 = .ok (.iload_n 1, 1) := by decide +kernel
theorem dX8_film_55 : decode cX8_film 55 = .ok (.imul, 1) := by decide +kernel
theorem dX8_film_56 : decode cX8_film 56 = .ok (.iload_n 3, 1) := by decide +kernel
theorem dX8_film_57 : decode cX8_film 57 = .ok (.iadd, 1) := by decide +kernel
theorem dX8_film_58 : decode cX8_film 58 = .ok (.iload_n 3, 1) := by decide +kernel
theorem dX8_film_59 : decode cX8_film 59 = .ok (.aload_n 0, 1) := by decide +kernel
theorem dX8_film_60 : decode cX8_film 60 = .ok (.getfield 75, 3) := by decide +kernel
theorem dX8_film_63 : decode cX8_film 63 = .ok (.if_icmp .ge 17, 3) := by decide +kernel
theorem dX8_film_66 : decode cX8_film 66 = .ok (.aload_n 0, 1) := by decide +kernel
theorem dX8_film_67 : decode cX8_film 67 = .ok (.iload_n 3, 1) := by decide +kernel
theorem dX8_film_68 : decode cX8_film 68 = .ok (.iconst 0, 1) := by decide +kernel
theorem dX8_film_69 : decode cX8_film 69 = .ok (.iconst 4, 1) := by decide +kernel
theorem dX8_film_70 : decode cX8_film 70 = .ok (.invokestatic 164, 3) := by decide +kernel
theorem dX8_film_73 : decode cX8_film 73 = .ok (.iload_n 2, 1) := by decide +kernel
theorem dX8_film_74 : decode cX8_film 74 = .ok (.invokevirtual 190, 3) := by decide +kernel
theorem dX8_film_77 : decode cX8_film 77 = .ok (.goto 4, 3) := by decide +kernel
theorem dX8_film_80 : decode cX8_film 80 = .ok (.iconst 0, 1) := by decide +kernel
theorem dX8_film_81 : decode cX8_film 81 = .ok (.iastore, 1) := by decide +kernel
theorem dX8_film_82 : decode cX8_film 82 = .ok (.iinc 3 1, 3) := by decide +kernel
theorem dX8_film_85 : decode cX8_film 85 = .ok (.goto (-43), 3) := by decide +kernel
theorem dX8_film_88 : decode cX8_film 88 = .ok (.aload_n 0, 1) := by decide +kernel
theorem dX8_film_89 : decode cX8_film 89 = .ok (.getfield 75, 3) := by decide +kernel
theorem dX8_film_92 : decode cX8_film 92 = .ok (.ireturn, 1) := by decide +kernel
theorem dX8_drawnBy_0 : decode cX8_drawnBy 0 = .ok (.iload_n 1, 1) := by decide +kernel
theorem dX8_drawnBy_1 : decode cX8_drawnBy 1 = .ok (.i2l, 1) := by decide +kernel
theorem dX8_drawnBy_2 : decode cX8_drawnBy 2 = .ok (.lconst 1, 1) := by decide +kernel
theorem dX8_drawnBy_3 : decode cX8_drawnBy 3 = .ok (.ladd, 1) := by decide +kernel
theorem dX8_drawnBy_4 : decode cX8_drawnBy 4 = .ok (.lstore_n 3, 1) := by decide +kernel
theorem dX8_drawnBy_5 : decode cX8_drawnBy 5 = .ok (.iconst 0, 1) := by decide +kernel
theorem dX8_drawnBy_6 : decode cX8_drawnBy 6 = .ok (.istore 5, 2) := by decide +kernel
theorem dX8_drawnBy_8 : decode cX8_drawnBy 8 = .ok (.iconst 0, 1) := by decide +kernel
theorem dX8_drawnBy_9 : decode cX8_drawnBy 9 = .ok (.istore 6, 2) := by decide +kernel
theorem dX8_drawnBy_11 : decode cX8_drawnBy 11 = .ok (.iload 6, 2) := by decide +kernel
theorem dX8_drawnBy_13 : decode cX8_drawnBy 13 = .ok (.iload_n 2, 1) := by decide +kernel
theorem dX8_drawnBy_14 : decode cX8_drawnBy 14 = .ok (.if_icmp .ge 50, 3) := by decide +kernel
theorem dX8_drawnBy_17 : decode cX8_drawnBy 17 = .ok (.lload_n 3, 1) := by decide +kernel
theorem dX8_drawnBy_18 : decode cX8_drawnBy 18 = .ok (.ldc2_w 282, 3) := by decide +kernel
theorem dX8_drawnBy_21 : decode cX8_drawnBy 21 = .ok (.lmul, 1) := by decide +kernel
theorem dX8_drawnBy_22 : decode cX8_drawnBy 22 = .ok (.ldc2_w 284, 3) := by decide +kernel
theorem dX8_drawnBy_25 : decode cX8_drawnBy 25 = .ok (.lrem, 1) := by decide +kernel
theorem dX8_drawnBy_26 : decode cX8_drawnBy 26 = .ok (.lstore_n 3, 1) := by decide +kernel
theorem dX8_drawnBy_27 : decode cX8_drawnBy 27 = .ok (.iload 5, 2) := by decide +kernel
theorem dX8_drawnBy_29 : decode cX8_drawnBy 29 = .ok (.aload_n 0, 1) := by decide +kernel
theorem dX8_drawnBy_30 : decode cX8_drawnBy 30 = .ok (.lload_n 3, 1) := by decide +kernel
theorem dX8_drawnBy_31 : decode cX8_drawnBy 31 = .ok (.aload_n 0, 1) := by decide +kernel
theorem dX8_drawnBy_32 : decode cX8_drawnBy 32 = .ok (.getfield 75, 3) := by decide +kernel
theorem dX8_drawnBy_35 : decode cX8_drawnBy 35 = .ok (.i2l, 1) := by decide +kernel
theorem dX8_drawnBy_36 : decode cX8_drawnBy 36 = .ok (.lrem, 1) := by decide +kernel
theorem dX8_drawnBy_37 : decode cX8_drawnBy 37 = .ok (.l2i, 1) := by decide +kernel
theorem dX8_drawnBy_38 : decode cX8_drawnBy 38 = .ok (.lload_n 3, 1) := by decide +kernel
theorem dX8_drawnBy_39 : decode cX8_drawnBy 39 = .ok (.aload_n 0, 1) := by decide +kernel
theorem dX8_drawnBy_40 : decode cX8_drawnBy 40 = .ok (.getfield 75, 3) := by decide +kernel
theorem dX8_drawnBy_43 : decode cX8_drawnBy 43 = .ok (.i2l, 1) := by decide +kernel
theorem dX8_drawnBy_44 : decode cX8_drawnBy 44 = .ok (.ldiv, 1) := by decide +kernel
theorem dX8_drawnBy_45 : decode cX8_drawnBy 45 = .ok (.aload_n 0, 1) := by decide +kernel
theorem dX8_drawnBy_46 : decode cX8_drawnBy 46 = .ok (.getfield 82, 3) := by decide +kernel
theorem dX8_drawnBy_49 : decode cX8_drawnBy 49 = .ok (.i2l, 1) := by decide +kernel
theorem dX8_drawnBy_50 : decode cX8_drawnBy 50 = .ok (.lrem, 1) := by decide +kernel
theorem dX8_drawnBy_51 : decode cX8_drawnBy 51 = .ok (.l2i, 1) := by decide +kernel
theorem dX8_drawnBy_52 : decode cX8_drawnBy 52 = .ok (.invokevirtual 199, 3) := by decide +kernel
theorem dX8_drawnBy_55 : decode cX8_drawnBy 55 = .ok (.iadd, 1) := by decide +kernel
theorem dX8_drawnBy_56 : decode cX8_drawnBy 56 = .ok (.istore 5, 2) := by decide +kernel
theorem dX8_drawnBy_58 : decode cX8_drawnBy 58 = .ok (.iinc 6 1, 3) := by decide +kernel
theorem dX8_drawnBy_61 : decode cX8_drawnBy 61 = .ok (.goto (-50), 3) := by decide +kernel
theorem dX8_drawnBy_64 : decode cX8_drawnBy 64 = .ok (.aload_n 0, 1) := by decide +kernel
theorem dX8_drawnBy_65 : decode cX8_drawnBy 65 = .ok (.invokevirtual 214, 3) := by decide +kernel
theorem dX8_drawnBy_68 : decode cX8_drawnBy 68 = .ok (.iload 5, 2) := by decide +kernel
theorem dX8_drawnBy_70 : decode cX8_drawnBy 70 = .ok (.ireturn, 1) := by decide +kernel
theorem dX8_drawn_0 : decode cX8_drawn 0 = .ok (.iload_n 1, 1) := by decide +kernel
theorem dX8_drawn_1 : decode cX8_drawn 1 = .ok (.iconst 0, 1) := by decide +kernel
theorem dX8_drawn_2 : decode cX8_drawn 2 = .ok (.ldc_w 286, 3) := by decide +kernel
theorem dX8_drawn_5 : decode cX8_drawn 5 = .ok (.invokestatic 78, 3) := by decide +kernel
theorem dX8_drawn_8 : decode cX8_drawn 8 = .ok (.ifCond .eq 13, 3) := by decide +kernel
theorem dX8_drawn_11 : decode cX8_drawn 11 = .ok (.iload_n 2, 1) := by decide +kernel
theorem dX8_drawn_12 : decode cX8_drawn 12 = .ok (.iconst 0, 1) := by decide +kernel
theorem dX8_drawn_13 : decode cX8_drawn 13 = .ok (.bipush 50, 2) := by decide +kernel
theorem dX8_drawn_15 : decode cX8_drawn 15 = .ok (.invokestatic 78, 3) := by decide +kernel
theorem dX8_drawn_18 : decode cX8_drawn 18 = .ok (.ifCond .ne 6, 3) := by decide +kernel
theorem dX8_drawn_21 : decode cX8_drawn 21 = .ok (.bipush (-2), 2) := by decide +kernel
theorem dX8_drawn_23 : decode cX8_drawn 23 = .ok (.ireturn, 1) := by decide +kernel
theorem dX8_drawn_24 : decode cX8_drawn 24 = .ok (.aload_n 0, 1) := by decide +kernel
theorem dX8_drawn_25 : decode cX8_drawn 25 = .ok (.invokevirtual 205, 3) := by decide +kernel
theorem dX8_drawn_28 : decode cX8_drawn 28 = .ok (.ifCond .ne 7, 3) := by decide +kernel
theorem dX8_drawn_31 : decode cX8_drawn 31 = .ok (.iconst (-1), 1) := by decide +kernel
theorem dX8_drawn_32 : decode cX8_drawn 32 = .ok (.goto 9, 3) := by decide +kernel
theorem dX8_drawn_35 : decode cX8_drawn 35 = .ok (.aload_n 0, 1) := by decide +kernel
theorem dX8_drawn_36 : decode cX8_drawn 36 = .ok (.iload_n 1, 1) := by decide +kernel
theorem dX8_drawn_37 : decode cX8_drawn 37 = .ok (.iload_n 2, 1) := by decide +kernel
theorem dX8_drawn_38 : decode cX8_drawn 38 = .ok (.invokevirtual 287, 3) := by decide +kernel
theorem dX8_drawn_41 : decode cX8_drawn 41 = .ok (.ireturn, 1) := by decide +kernel
theorem dX8_lowest_0 : decode cX8_lowest 0 = .ok (.lload_n 0, 1) := by decide +kernel
theorem dX8_lowest_1 : decode cX8_lowest 1 = .ok (.lconst 0, 1) := by decide +kernel
theorem dX8_lowest_2 : decode cX8_lowest 2 = .ok (.lcmp, 1) := by decide +kernel
theorem dX8_lowest_3 : decode cX8_lowest 3 = .ok (.ifCond .ne 7, 3) := by decide +kernel
theorem dX8_lowest_6 : decode cX8_lowest 6 = .ok (.iload 4, 2) := by decide +kernel
theorem dX8_lowest_8 : decode cX8_lowest 8 = .ok (.i2l, 1) := by decide +kernel
theorem dX8_lowest_9 : decode cX8_lowest 9 = .ok (.lreturn, 1) := by decide +kernel
theorem dX8_lowest_10 : decode cX8_lowest 10 = .ok (.lload_n 0, 1) := by decide +kernel
theorem dX8_lowest_11 : decode cX8_lowest 11 = .ok (.lstore 5, 2) := by decide +kernel
theorem dX8_lowest_13 : decode cX8_lowest 13 = .ok (.lload_n 2, 1) := by decide +kernel
theorem dX8_lowest_14 : decode cX8_lowest 14 = .ok (.lstore 7, 2) := by decide +kernel
theorem dX8_lowest_16 : decode cX8_lowest 16 = .ok (.lload 7, 2) := by decide +kernel
theorem dX8_lowest_18 : decode cX8_lowest 18 = .ok (.lconst 0, 1) := by decide +kernel
theorem dX8_lowest_19 : decode cX8_lowest 19 = .ok (.lcmp, 1) := by decide +kernel
theorem dX8_lowest_20 : decode cX8_lowest 20 = .ok (.ifCond .eq 21, 3) := by decide +kernel
theorem dX8_lowest_23 : decode cX8_lowest 23 = .ok (.lload 5, 2) := by decide +kernel
theorem dX8_lowest_25 : decode cX8_lowest 25 = .ok (.lload 7, 2) := by decide +kernel
theorem dX8_lowest_27 : decode cX8_lowest 27 = .ok (.lrem, 1) := by decide +kernel
theorem dX8_lowest_28 : decode cX8_lowest 28 = .ok (.lstore 9, 2) := by decide +kernel
theorem dX8_lowest_30 : decode cX8_lowest 30 = .ok (.lload 7, 2) := by decide +kernel
theorem dX8_lowest_32 : decode cX8_lowest 32 = .ok (.lstore 5, 2) := by decide +kernel
theorem dX8_lowest_34 : decode cX8_lowest 34 = .ok (.lload 9, 2) := by decide +kernel
theorem dX8_lowest_36 : decode cX8_lowest 36 = .ok (.lstore 7, 2) := by decide +kernel
theorem dX8_lowest_38 : decode cX8_lowest 38 = .ok (.goto (-22), 3) := by decide +kernel
theorem dX8_lowest_41 : decode cX8_lowest 41 = .ok (.iload 4, 2) := by decide +kernel
theorem dX8_lowest_43 : decode cX8_lowest 43 = .ok (.ifCond .ne 7, 3) := by decide +kernel
theorem dX8_lowest_46 : decode cX8_lowest 46 = .ok (.lload_n 0, 1) := by decide +kernel
theorem dX8_lowest_47 : decode cX8_lowest 47 = .ok (.goto 4, 3) := by decide +kernel
theorem dX8_lowest_50 : decode cX8_lowest 50 = .ok (.lload_n 2, 1) := by decide +kernel
theorem dX8_lowest_51 : decode cX8_lowest 51 = .ok (.lload 5, 2) := by decide +kernel
theorem dX8_lowest_53 : decode cX8_lowest 53 = .ok (.ldiv, 1) := by decide +kernel
theorem dX8_lowest_54 : decode cX8_lowest 54 = .ok (.lreturn, 1) := by decide +kernel
theorem dX8_odds_0 : decode cX8_odds 0 = .ok (.iload_n 1, 1) := by decide +kernel
theorem dX8_odds_1 : decode cX8_odds 1 = .ok (.iconst 0, 1) := by decide +kernel
theorem dX8_odds_2 : decode cX8_odds 2 = .ok (.ldc_w 286, 3) := by decide +kernel
theorem dX8_odds_5 : decode cX8_odds 5 = .ok (.invokestatic 78, 3) := by decide +kernel
theorem dX8_odds_8 : decode cX8_odds 8 = .ok (.ifCond .eq 52, 3) := by decide +kernel
theorem dX8_odds_11 : decode cX8_odds 11 = .ok (.iload_n 2, 1) := by decide +kernel
theorem dX8_odds_12 : decode cX8_odds 12 = .ok (.iconst 0, 1) := by decide +kernel
theorem dX8_odds_13 : decode cX8_odds 13 = .ok (.sipush 5050, 3) := by decide +kernel
theorem dX8_odds_16 : decode cX8_odds 16 = .ok (.invokestatic 78, 3) := by decide +kernel
theorem dX8_odds_19 : decode cX8_odds 19 = .ok (.ifCond .eq 41, 3) := by decide +kernel
theorem dX8_odds_22 : decode cX8_odds 22 = .ok (.iload_n 2, 1) := by decide +kernel
theorem dX8_odds_23 : decode cX8_odds 23 = .ok (.bipush 100, 2) := by decide +kernel
theorem dX8_odds_25 : decode cX8_odds 25 = .ok (.irem, 1) := by decide +kernel
theorem dX8_odds_26 : decode cX8_odds 26 = .ok (.iconst 1, 1) := by decide +kernel
theorem dX8_odds_27 : decode cX8_odds 27 = .ok (.bipush 50, 2) := by decide +kernel
theorem dX8_odds_29 : decode cX8_odds 29 = .ok (.invokestatic 78, 3) := by decide +kernel
theorem dX8_odds_32 : decode cX8_odds 32 = .ok (.ifCond .eq 28, 3) := by decide +kernel
theorem dX8_odds_35 : decode cX8_odds 35 = .ok (.iload_n 3, 1) := by decide +kernel
theorem dX8_odds_36 : decode cX8_odds 36 = .ok (.iconst 0, 1) := by decide +kernel
theorem dX8_odds_37 : decode cX8_odds 37 = .ok (.sipush 9999, 3) := by decide +kernel
theorem dX8_odds_40 : decode cX8_odds 40 = .ok (.invokestatic 78, 3) := by decide +kernel
theorem dX8_odds_43 : decode cX8_odds 43 = .ok (.ifCond .eq 17, 3) := by decide +kernel
theorem dX8_odds_46 : decode cX8_odds 46 = .ok (.iload 4, 2) := by decide +kernel
theorem dX8_odds_48 : decode cX8_odds 48 = .ok (.iconst 0, 1) := by decide +kernel
theorem dX8_odds_49 : decode cX8_odds 49 = .ok (.iconst 1, 1) := by decide +kernel
theorem dX8_odds_50 : decode cX8_odds 50 = .ok (.invokestatic 78, 3) := by decide +kernel
theorem dX8_odds_53 : decode cX8_odds 53 = .ok (.ifCond .eq 7, 3) := by decide +kernel
theorem dX8_odds_56 : decode cX8_odds 56 = .ok (.iconst 1, 1) := by decide +kernel
theorem dX8_odds_57 : decode cX8_odds 57 = .ok (.goto 4, 3) := by decide +kernel
theorem dX8_odds_60 : decode cX8_odds 60 = .ok (.iconst 0, 1) := by decide +kernel
theorem dX8_odds_61 : decode cX8_odds 61 = .ok (.istore 5, 2) := by decide +kernel
theorem dX8_odds_63 : decode cX8_odds 63 = .ok (.iload 5, 2) := by decide +kernel
theorem dX8_odds_65 : decode cX8_odds 65 = .ok (.ifCond .eq 10, 3) := by decide +kernel
theorem dX8_odds_68 : decode cX8_odds 68 = .ok (.aload_n 0, 1) := by decide +kernel
theorem dX8_odds_69 : decode cX8_odds 69 = .ok (.invokevirtual 205, 3) := by decide +kernel
theorem dX8_odds_72 : decode cX8_odds 72 = .ok (.ifCond .ne 7, 3) := by decide +kernel
theorem dX8_odds_75 : decode cX8_odds 75 = .ok (.ldc2_w 253, 3) := by decide +kernel
theorem dX8_odds_78 : decode cX8_odds 78 = .ok (.lreturn, 1) := by decide +kernel
theorem dX8_odds_79 : decode cX8_odds 79 = .ok (.lconst 0, 1) := by decide +kernel
theorem dX8_odds_80 : decode cX8_odds 80 = .ok (.lstore 6, 2) := by decide +kernel
theorem dX8_odds_82 : decode cX8_odds 82 = .ok (.iconst 0, 1) := by decide +kernel
theorem dX8_odds_83 : decode cX8_odds 83 = .ok (.istore 8, 2) := by decide +kernel
theorem dX8_odds_85 : decode cX8_odds 85 = .ok (.iload 8, 2) := by decide +kernel
theorem dX8_odds_87 : decode cX8_odds 87 = .ok (.iload_n 2, 1) := by decide +kernel
theorem dX8_odds_88 : decode cX8_odds 88 = .ok (.bipush 100, 2) := by decide +kernel
theorem dX8_odds_90 : decode cX8_odds 90 = .ok (.irem, 1) := by decide +kernel
theorem dX8_odds_91 : decode cX8_odds 91 = .ok (.if_icmp .ge 35, 3) := by decide +kernel
theorem dX8_odds_94 : decode cX8_odds 94 = .ok (.lload 6, 2) := by decide +kernel
theorem dX8_odds_96 : decode cX8_odds 96 = .ok (.aload_n 0, 1) := by decide +kernel
theorem dX8_odds_97 : decode cX8_odds 97 = .ok (.iload_n 1, 1) := by decide +kernel
theorem dX8_odds_98 : decode cX8_odds 98 = .ok (.iload 8, 2) := by decide +kernel
theorem dX8_odds_100 : decode cX8_odds 100 = .ok (.iadd, 1) := by decide +kernel
theorem dX8_odds_101 : decode cX8_odds 101 = .ok (.iload_n 2, 1) := by decide +kernel
theorem dX8_odds_102 : decode cX8_odds 102 = .ok (.bipush 100, 2) := by decide +kernel
theorem dX8_odds_104 : decode cX8_odds 104 = .ok (.idiv, 1) := by decide +kernel
theorem dX8_odds_105 : decode cX8_odds 105 = .ok (.invokevirtual 287, 3) := by decide +kernel
theorem dX8_odds_108 : decode cX8_odds 108 = .ok (.iload_n 3, 1) := by decide +kernel
theorem dX8_odds_109 : decode cX8_odds 109 = .ok (.if_icmp .lt 7, 3) := by decide +kernel
theorem dX8_odds_112 : decode cX8_odds 112 = .ok (.lconst 1, 1) := by decide +kernel
theorem dX8_odds_113 : decode cX8_odds 113 = .ok (.goto 4, 3) := by decide +kernel
theorem dX8_odds_116 : decode cX8_odds 116 = .ok (.lconst 0, 1) := by decide +kernel
theorem dX8_odds_117 : decode cX8_odds 117 = .ok (.ladd, 1) := by decide +kernel
theorem dX8_odds_118 : decode cX8_odds 118 = .ok (.lstore 6, 2) := by decide +kernel
theorem dX8_odds_120 : decode cX8_odds 120 = .ok (.iinc 8 1, 3) := by decide +kernel
theorem dX8_odds_123 : decode cX8_odds 123 = .ok (.goto (-38), 3) := by decide +kernel
theorem dX8_odds_126 : decode cX8_odds 126 = .ok (.lload 6, 2) := by decide +kernel
theorem dX8_odds_128 : decode cX8_odds 128 = .ok (.iload_n 2, 1) := by decide +kernel
theorem dX8_odds_129 : decode cX8_odds 129 = .ok (.bipush 100, 2) := by decide +kernel
theorem dX8_odds_131 : decode cX8_odds 131 = .ok (.irem, 1) := by decide +kernel
theorem dX8_odds_132 : decode cX8_odds 132 = .ok (.i2l, 1) := by decide +kernel
theorem dX8_odds_133 : decode cX8_odds 133 = .ok (.iload 4, 2) := by decide +kernel
theorem dX8_odds_135 : decode cX8_odds 135 = .ok (.invokestatic 290, 3) := by decide +kernel
theorem dX8_odds_138 : decode cX8_odds 138 = .ok (.lreturn, 1) := by decide +kernel
theorem dX8_image_0 : decode cX8_image 0 = .ok (.aload_n 0, 1) := by decide +kernel
theorem dX8_image_1 : decode cX8_image 1 = .ok (.iconst 1, 1) := by decide +kernel
theorem dX8_image_2 : decode cX8_image 2 = .ok (.putfield 294, 3) := by decide +kernel
theorem dX8_image_5 : decode cX8_image 5 = .ok (.aload_n 0, 1) := by decide +kernel
theorem dX8_image_6 : decode cX8_image 6 = .ok (.aload_n 0, 1) := by decide +kernel
theorem dX8_image_7 : decode cX8_image 7 = .ok (.getfield 75, 3) := by decide +kernel
theorem dX8_image_10 : decode cX8_image 10 = .ok (.putfield 298, 3) := by decide +kernel
theorem dX8_image_13 : decode cX8_image 13 = .ok (.aload_n 0, 1) := by decide +kernel
theorem dX8_image_14 : decode cX8_image 14 = .ok (.aload_n 0, 1) := by decide +kernel
theorem dX8_image_15 : decode cX8_image 15 = .ok (.getfield 82, 3) := by decide +kernel
theorem dX8_image_18 : decode cX8_image 18 = .ok (.putfield 301, 3) := by decide +kernel
theorem dX8_image_21 : decode cX8_image 21 = .ok (.aload_n 0, 1) := by decide +kernel
theorem dX8_image_22 : decode cX8_image 22 = .ok (.aload_n 0, 1) := by decide +kernel
theorem dX8_image_23 : decode cX8_image 23 = .ok (.getfield 88, 3) := by decide +kernel
theorem dX8_image_26 : decode cX8_image 26 = .ok (.putfield 304, 3) := by decide +kernel
theorem dX8_image_29 : decode cX8_image 29 = .ok (.aload_n 0, 1) := by decide +kernel
theorem dX8_image_30 : decode cX8_image 30 = .ok (.aload_n 0, 1) := by decide +kernel
theorem dX8_image_31 : decode cX8_image 31 = .ok (.getfield 94, 3) := by decide +kernel
theorem dX8_image_34 : decode cX8_image 34 = .ok (.putfield 307, 3) := by decide +kernel
theorem dX8_image_37 : decode cX8_image 37 = .ok (.iconst 0, 1) := by decide +kernel
theorem dX8_image_38 : decode cX8_image 38 = .ok (.istore_n 1, 1) := by decide +kernel
theorem dX8_image_39 : decode cX8_image 39 = .ok (.iload_n 1, 1) := by decide +kernel
theorem dX8_image_40 : decode cX8_image 40 = .ok (.iconst 5, 1) := by decide +kernel
theorem dX8_image_41 : decode cX8_image 41 = .ok (.if_icmp .ge 21, 3) := by decide +kernel
theorem dX8_image_44 : decode cX8_image 44 = .ok (.aload_n 0, 1) := by decide +kernel
theorem dX8_image_45 : decode cX8_image 45 = .ok (.getfield 34, 3) := by decide +kernel
theorem dX8_image_48 : decode cX8_image 48 = .ok (.iload_n 1, 1) := by decide +kernel
theorem dX8_image_49 : decode cX8_image 49 = .ok (.aload_n 0, 1) := by decide +kernel
theorem dX8_image_50 : decode cX8_image 50 = .ok (.getfield 16, 3) := by decide +kernel
theorem dX8_image_53 : decode cX8_image 53 = .ok (.iload_n 1, 1) := by decide +kernel
theorem dX8_image_54 : decode cX8_image 54 = .ok (.iaload, 1) := by decide +kernel
theorem dX8_image_55 : decode cX8_image 55 = .ok (.iastore, 1) := by decide +kernel
theorem dX8_image_56 : decode cX8_image 56 = .ok (.iinc 1 1, 3) := by decide +kernel
theorem dX8_image_59 : decode cX8_image 59 = .ok (.goto (-20), 3) := by decide +kernel
theorem dX8_image_62 : decode cX8_image 62 = .ok (.iconst 0, 1) := by decide +kernel
theorem dX8_image_63 : decode cX8_image 63 = .ok (.istore_n 1, 1) := by decide +kernel
theorem dX8_image_64 : decode cX8_image 64 = .ok (.iload_n 1, 1) := by decide +kernel
theorem dX8_image_65 : decode cX8_image 65 = .ok (.bipush 30, 2) := by decide +kernel
theorem dX8_image_67 : decode cX8_image 67 = .ok (.if_icmp .ge 23, 3) := by decide +kernel
theorem dX8_image_70 : decode cX8_image 70 = .ok (.aload_n 0, 1) := by decide +kernel
theorem dX8_image_71 : decode cX8_image 71 = .ok (.getfield 34, 3) := by decide +kernel
theorem dX8_image_74 : decode cX8_image 74 = .ok (.iconst 5, 1) := by decide +kernel
theorem dX8_image_75 : decode cX8_image 75 = .ok (.iload_n 1, 1) := by decide +kernel
theorem dX8_image_76 : decode cX8_image 76 = .ok (.iadd, 1) := by decide +kernel
theorem dX8_image_77 : decode cX8_image 77 = .ok (.aload_n 0, 1) := by decide +kernel
theorem dX8_image_78 : decode cX8_image 78 = .ok (.getfield 19, 3) := by decide +kernel
theorem dX8_image_81 : decode cX8_image 81 = .ok (.iload_n 1, 1) := by decide +kernel
theorem dX8_image_82 : decode cX8_image 82 = .ok (.iaload, 1) := by decide +kernel
theorem dX8_image_83 : decode cX8_image 83 = .ok (.iastore, 1) := by decide +kernel
theorem dX8_image_84 : decode cX8_image 84 = .ok (.iinc 1 1, 3) := by decide +kernel
theorem dX8_image_87 : decode cX8_image 87 = .ok (.goto (-23), 3) := by decide +kernel
theorem dX8_image_90 : decode cX8_image 90 = .ok (.iconst 0, 1) := by decide +kernel
theorem dX8_image_91 : decode cX8_image 91 = .ok (.istore_n 1, 1) := by decide +kernel
theorem dX8_image_92 : decode cX8_image 92 = .ok (.iload_n 1, 1) := by decide +kernel
theorem dX8_image_93 : decode cX8_image 93 = .ok (.bipush 16, 2) := by decide +kernel
theorem dX8_image_95 : decode cX8_image 95 = .ok (.if_icmp .ge 24, 3) := by decide +kernel
theorem dX8_image_98 : decode cX8_image 98 = .ok (.aload_n 0, 1) := by decide +kernel
theorem dX8_image_99 : decode cX8_image 99 = .ok (.getfield 34, 3) := by decide +kernel
theorem dX8_image_102 : decode cX8_image 102 = .ok (.bipush 35, 2) := by decide +kernel
theorem dX8_image_104 : decode cX8_image 104 = .ok (.iload_n 1, 1) := by decide +kernel
theorem dX8_image_105 : decode cX8_image 105 = .ok (.iadd, 1) := by decide +kernel
theorem dX8_image_106 : decode cX8_image 106 = .ok (.aload_n 0, 1) := by decide +kernel
theorem dX8_image_107 : decode cX8_image 107 = .ok (.getfield 22, 3) := by decide +kernel
theorem dX8_image_110 : decode cX8_image 110 = .ok (.iload_n 1, 1) := by decide +kernel
theorem dX8_image_111 : decode cX8_image 111 = .ok (.iaload, 1) := by decide +kernel
theorem dX8_image_112 : decode cX8_image 112 = .ok (.iastore, 1) := by decide +kernel
theorem dX8_image_113 : decode cX8_image 113 = .ok (.iinc 1 1, 3) := by decide +kernel
theorem dX8_image_116 : decode cX8_image 116 = .ok (.goto (-24), 3) := by decide +kernel
theorem dX8_image_119 : decode cX8_image 119 = .ok (.aload_n 0, 1) := by decide +kernel
theorem dX8_image_120 : decode cX8_image 120 = .ok (.getfield 75, 3) := by decide +kernel
theorem dX8_image_123 : decode cX8_image 123 = .ok (.ireturn, 1) := by decide +kernel
theorem dX8_back_0 : decode cX8_back 0 = .ok (.aload_n 0, 1) := by decide +kernel
theorem dX8_back_1 : decode cX8_back 1 = .ok (.getfield 294, 3) := by decide +kernel
theorem dX8_back_4 : decode cX8_back 4 = .ok (.ifCond .ne 6, 3) := by decide +kernel
theorem dX8_back_7 : decode cX8_back 7 = .ok (.bipush (-3), 2) := by decide +kernel
theorem dX8_back_9 : decode cX8_back 9 = .ok (.ireturn, 1) := by decide +kernel
theorem dX8_back_10 : decode cX8_back 10 = .ok (.aload_n 0, 1) := by decide +kernel
theorem dX8_back_11 : decode cX8_back 11 = .ok (.aload_n 0, 1) := by decide +kernel
theorem dX8_back_12 : decode cX8_back 12 = .ok (.getfield 298, 3) := by decide +kernel
theorem dX8_back_15 : decode cX8_back 15 = .ok (.putfield 75, 3) := by decide +kernel
theorem dX8_back_18 : decode cX8_back 18 = .ok (.aload_n 0, 1) := by decide +kernel
theorem dX8_back_19 : decode cX8_back 19 = .ok (.aload_n 0, 1) := by decide +kernel
theorem dX8_back_20 : decode cX8_back 20 = .ok (.getfield 301, 3) := by decide +kernel
theorem dX8_back_23 : decode cX8_back 23 = .ok (.putfield 82, 3) := by decide +kernel
theorem dX8_back_26 : decode cX8_back 26 = .ok (.aload_n 0, 1) := by decide +kernel
theorem dX8_back_27 : decode cX8_back 27 = .ok (.aload_n 0, 1) := by decide +kernel
theorem dX8_back_28 : decode cX8_back 28 = .ok (.getfield 304, 3) := by decide +kernel
theorem dX8_back_31 : decode cX8_back 31 = .ok (.putfield 88, 3) := by decide +kernel
theorem dX8_back_34 : decode cX8_back 34 = .ok (.aload_n 0, 1) := by decide +kernel
theorem dX8_back_35 : decode cX8_back 35 = .ok (.aload_n 0, 1) := by decide +kernel
theorem dX8_back_36 : decode cX8_back 36 = .ok (.getfield 307, 3) := by decide +kernel
theorem dX8_back_39 : decode cX8_back 39 = .ok (.putfield 94, 3) := by decide +kernel
theorem dX8_back_42 : decode cX8_back 42 = .ok (.iconst 0, 1) := by decide +kernel
theorem dX8_back_43 : decode cX8_back 43 = .ok (.istore_n 1, 1) := by decide +kernel
theorem dX8_back_44 : decode cX8_back 44 = .ok (.iload_n 1, 1) := by decide +kernel
theorem dX8_back_45 : decode cX8_back 45 = .ok (.iconst 5, 1) := by decide +kernel
theorem dX8_back_46 : decode cX8_back 46 = .ok (.if_icmp .ge 21, 3) := by decide +kernel
theorem dX8_back_49 : decode cX8_back 49 = .ok (.aload_n 0, 1) := by decide +kernel
theorem dX8_back_50 : decode cX8_back 50 = .ok (.getfield 16, 3) := by decide +kernel
theorem dX8_back_53 : decode cX8_back 53 = .ok (.iload_n 1, 1) := by decide +kernel
theorem dX8_back_54 : decode cX8_back 54 = .ok (.aload_n 0, 1) := by decide +kernel
theorem dX8_back_55 : decode cX8_back 55 = .ok (.getfield 34, 3) := by decide +kernel
theorem dX8_back_58 : decode cX8_back 58 = .ok (.iload_n 1, 1) := by decide +kernel
theorem dX8_back_59 : decode cX8_back 59 = .ok (.iaload, 1) := by decide +kernel
theorem dX8_back_60 : decode cX8_back 60 = .ok (.iastore, 1) := by decide +kernel
theorem dX8_back_61 : decode cX8_back 61 = .ok (.iinc 1 1, 3) := by decide +kernel
theorem dX8_back_64 : decode cX8_back 64 = .ok (.goto (-20), 3) := by decide +kernel
theorem dX8_back_67 : decode cX8_back 67 = .ok (.iconst 0, 1) := by decide +kernel
theorem dX8_back_68 : decode cX8_back 68 = .ok (.istore_n 1, 1) := by decide +kernel
theorem dX8_back_69 : decode cX8_back 69 = .ok (.iload_n 1, 1) := by decide +kernel
theorem dX8_back_70 : decode cX8_back 70 = .ok (.bipush 30, 2) := by decide +kernel
theorem dX8_back_72 : decode cX8_back 72 = .ok (.if_icmp .ge 23, 3) := by decide +kernel
theorem dX8_back_75 : decode cX8_back 75 = .ok (.aload_n 0, 1) := by decide +kernel
theorem dX8_back_76 : decode cX8_back 76 = .ok (.getfield 19, 3) := by decide +kernel
theorem dX8_back_79 : decode cX8_back 79 = .ok (.iload_n 1, 1) := by decide +kernel
theorem dX8_back_80 : decode cX8_back 80 = .ok (.aload_n 0, 1) := by decide +kernel
theorem dX8_back_81 : decode cX8_back 81 = .ok (.getfield 34, 3) := by decide +kernel
theorem dX8_back_84 : decode cX8_back 84 = .ok (.iconst 5, 1) := by decide +kernel
theorem dX8_back_85 : decode cX8_back 85 = .ok (.iload_n 1, 1) := by decide +kernel
theorem dX8_back_86 : decode cX8_back 86 = .ok (.iadd, 1) := by decide +kernel
theorem dX8_back_87 : decode cX8_back 87 = .ok (.iaload, 1) := by decide +kernel
theorem dX8_back_88 : decode cX8_back 88 = .ok (.iastore, 1) := by decide +kernel
theorem dX8_back_89 : decode cX8_back 89 = .ok (.iinc 1 1, 3) := by decide +kernel
theorem dX8_back_92 : decode cX8_back 92 = .ok (.goto (-23), 3) := by decide +kernel
theorem dX8_back_95 : decode cX8_back 95 = .ok (.iconst 0, 1) := by decide +kernel
theorem dX8_back_96 : decode cX8_back 96 = .ok (.istore_n 1, 1) := by decide +kernel
theorem dX8_back_97 : decode cX8_back 97 = .ok (.iload_n 1, 1) := by decide +kernel
theorem dX8_back_98 : decode cX8_back 98 = .ok (.bipush 16, 2) := by decide +kernel
theorem dX8_back_100 : decode cX8_back 100 = .ok (.if_icmp .ge 24, 3) := by decide +kernel
theorem dX8_back_103 : decode cX8_back 103 = .ok (.aload_n 0, 1) := by decide +kernel
theorem dX8_back_104 : decode cX8_back 104 = .ok (.getfield 22, 3) := by decide +kernel
theorem dX8_back_107 : decode cX8_back 107 = .ok (.iload_n 1, 1) := by decide +kernel
theorem dX8_back_108 : decode cX8_back 108 = .ok (.aload_n 0, 1) := by decide +kernel
theorem dX8_back_109 : decode cX8_back 109 = .ok (.getfield 34, 3) := by decide +kernel
theorem dX8_back_112 : decode cX8_back 112 = .ok (.bipush 35, 2) := by decide +kernel
theorem dX8_back_114 : decode cX8_back 114 = .ok (.iload_n 1, 1) := by decide +kernel
theorem dX8_back_115 : decode cX8_back 115 = .ok (.iadd, 1) := by decide +kernel
theorem dX8_back_116 : decode cX8_back 116 = .ok (.iaload, 1) := by decide +kernel
theorem dX8_back_117 : decode cX8_back 117 = .ok (.iastore, 1) := by decide +kernel
theorem dX8_back_118 : decode cX8_back 118 = .ok (.iinc 1 1, 3) := by decide +kernel
theorem dX8_back_121 : decode cX8_back 121 = .ok (.goto (-24), 3) := by decide +kernel
theorem dX8_back_124 : decode cX8_back 124 = .ok (.aload_n 0, 1) := by decide +kernel
theorem dX8_back_125 : decode cX8_back 125 = .ok (.getfield 75, 3) := by decide +kernel
theorem dX8_back_128 : decode cX8_back 128 = .ok (.ireturn, 1) := by decide +kernel
theorem dX8_sheet_0 : decode cX8_sheet 0 = .ok (.iload_n 1, 1) := by decide +kernel
theorem dX8_sheet_1 : decode cX8_sheet 1 = .ok (.iconst 0, 1) := by decide +kernel
theorem dX8_sheet_2 : decode cX8_sheet 2 = .ok (.iconst 3, 1) := by decide +kernel
theorem dX8_sheet_3 : decode cX8_sheet 3 = .ok (.invokestatic 78, 3) := by decide +kernel
theorem dX8_sheet_6 : decode cX8_sheet 6 = .ok (.ifCond .eq 23, 3) := by decide +kernel
theorem dX8_sheet_9 : decode cX8_sheet 9 = .ok (.iload_n 2, 1) := by decide +kernel
theorem dX8_sheet_10 : decode cX8_sheet 10 = .ok (.iconst (-1), 1) := by decide +kernel
theorem dX8_sheet_11 : decode cX8_sheet 11 = .ok (.iconst 2, 1) := by decide +kernel
theorem dX8_sheet_12 : decode cX8_sheet 12 = .ok (.invokestatic 78, 3) := by decide +kernel
theorem dX8_sheet_15 : decode cX8_sheet 15 = .ok (.ifCond .eq 14, 3) := by decide +kernel
theorem dX8_sheet_18 : decode cX8_sheet 18 = .ok (.iload_n 2, 1) := by decide +kernel
theorem dX8_sheet_19 : decode cX8_sheet 19 = .ok (.iconst (-1), 1) := by decide +kernel
theorem dX8_sheet_20 : decode cX8_sheet 20 = .ok (.if_icmp .eq 12, 3) := by decide +kernel
theorem dX8_sheet_23 : decode cX8_sheet 23 = .ok (.iload_n 3, 1) := by decide +kernel
theorem dX8_sheet_24 : decode cX8_sheet 24 = .ok (.bipush 40, 2) := by decide +kernel
theorem dX8_sheet_26 : decode cX8_sheet 26 = .ok (.if_icmp .le 6, 3) := by decide +kernel
theorem dX8_sheet_29 : decode cX8_sheet 29 = .ok (.bipush (-2), 2) := by decide +kernel
theorem dX8_sheet_31 : decode cX8_sheet 31 = .ok (.ireturn, 1) := by decide +kernel
theorem dX8_sheet_32 : decode cX8_sheet 32 = .ok (.iload_n 2, 1) := by decide +kernel
theorem dX8_sheet_33 : decode cX8_sheet 33 = .ok (.iconst (-1), 1) := by decide +kernel
theorem dX8_sheet_34 : decode cX8_sheet 34 = .ok (.if_icmp .eq 10, 3) := by decide +kernel
theorem dX8_sheet_37 : decode cX8_sheet 37 = .ok (.iload_n 3, 1) := by decide +kernel
theorem dX8_sheet_38 : decode cX8_sheet 38 = .ok (.ifCond .ge 6, 3) := by decide +kernel
theorem dX8_sheet_41 : decode cX8_sheet 41 = .ok (.bipush (-14), 2) := by decide +kernel
theorem dX8_sheet_43 : decode cX8_sheet 43 = .ok (.ireturn, 1) := by decide +kernel
theorem dX8_sheet_44 : decode cX8_sheet 44 = .ok (.aload_n 0, 1) := by decide +kernel
theorem dX8_sheet_45 : decode cX8_sheet 45 = .ok (.getfield 37, 3) := by decide +kernel
theorem dX8_sheet_48 : decode cX8_sheet 48 = .ok (.iload_n 1, 1) := by decide +kernel
theorem dX8_sheet_49 : decode cX8_sheet 49 = .ok (.iload_n 2, 1) := by decide +kernel
theorem dX8_sheet_50 : decode cX8_sheet 50 = .ok (.iastore, 1) := by decide +kernel
theorem dX8_sheet_51 : decode cX8_sheet 51 = .ok (.aload_n 0, 1) := by decide +kernel
theorem dX8_sheet_52 : decode cX8_sheet 52 = .ok (.getfield 40, 3) := by decide +kernel
theorem dX8_sheet_55 : decode cX8_sheet 55 = .ok (.iload_n 1, 1) := by decide +kernel
theorem dX8_sheet_56 : decode cX8_sheet 56 = .ok (.iload_n 2, 1) := by decide +kernel
theorem dX8_sheet_57 : decode cX8_sheet 57 = .ok (.iconst (-1), 1) := by decide +kernel
theorem dX8_sheet_58 : decode cX8_sheet 58 = .ok (.if_icmp .ne 7, 3) := by decide +kernel
theorem dX8_sheet_61 : decode cX8_sheet 61 = .ok (.iconst 0, 1) := by decide +kernel
theorem dX8_sheet_62 : decode cX8_sheet 62 = .ok (.goto 4, 3) := by decide +kernel
theorem dX8_sheet_65 : decode cX8_sheet 65 = .ok (.iload_n 3, 1) := by decide +kernel
theorem dX8_sheet_66 : decode cX8_sheet 66 = .ok (.iastore, 1) := by decide +kernel
theorem dX8_sheet_67 : decode cX8_sheet 67 = .ok (.iconst 0, 1) := by decide +kernel
theorem dX8_sheet_68 : decode cX8_sheet 68 = .ok (.istore 4, 2) := by decide +kernel
theorem dX8_sheet_70 : decode cX8_sheet 70 = .ok (.iload 4, 2) := by decide +kernel
theorem dX8_sheet_72 : decode cX8_sheet 72 = .ok (.bipush 40, 2) := by decide +kernel
theorem dX8_sheet_74 : decode cX8_sheet 74 = .ok (.if_icmp .ge 22, 3) := by decide +kernel
theorem dX8_sheet_77 : decode cX8_sheet 77 = .ok (.aload_n 0, 1) := by decide +kernel
theorem dX8_sheet_78 : decode cX8_sheet 78 = .ok (.getfield 43, 3) := by decide +kernel
theorem dX8_sheet_81 : decode cX8_sheet 81 = .ok (.bipush 40, 2) := by decide +kernel
theorem dX8_sheet_83 : decode cX8_sheet 83 = .ok (.iload_n 1, 1) := by decide +kernel
theorem dX8_sheet_84 : decode cX8_sheet 84 = .ok (.imul, 1) := by decide +kernel
theorem dX8_sheet_85 : decode cX8_sheet 85 = .ok (.iload 4, 2) := by decide +kernel
theorem dX8_sheet_87 : decode cX8_sheet 87 = .ok (.iadd, 1) := by decide +kernel
theorem dX8_sheet_88 : decode cX8_sheet 88 = .ok (.iconst 0, 1) := by decide +kernel
theorem dX8_sheet_89 : decode cX8_sheet 89 = .ok (.iastore, 1) := by decide +kernel
theorem dX8_sheet_90 : decode cX8_sheet 90 = .ok (.iinc 4 1, 3) := by decide +kernel
theorem dX8_sheet_93 : decode cX8_sheet 93 = .ok (.goto (-23), 3) := by decide +kernel
theorem dX8_sheet_96 : decode cX8_sheet 96 = .ok (.iconst 1, 1) := by decide +kernel
theorem dX8_sheet_97 : decode cX8_sheet 97 = .ok (.ireturn, 1) := by decide +kernel
theorem dX8_cell_0 : decode cX8_cell 0 = .ok (.iload_n 1, 1) := by decide +kernel
theorem dX8_cell_1 : decode cX8_cell 1 = .ok (.iconst 0, 1) := by decide +kernel
theorem dX8_cell_2 : decode cX8_cell 2 = .ok (.iconst 3, 1) := by decide +kernel
theorem dX8_cell_3 : decode cX8_cell 3 = .ok (.invokestatic 78, 3) := by decide +kernel
theorem dX8_cell_6 : decode cX8_cell 6 = .ok (.ifCond .ne 6, 3) := by decide +kernel
theorem dX8_cell_9 : decode cX8_cell 9 = .ok (.bipush (-2), 2) := by decide +kernel
theorem dX8_cell_11 : decode cX8_cell 11 = .ok (.ireturn, 1) := by decide +kernel
theorem dX8_cell_12 : decode cX8_cell 12 = .ok (.aload_n 0, 1) := by decide +kernel
theorem dX8_cell_13 : decode cX8_cell 13 = .ok (.getfield 37, 3) := by decide +kernel
theorem dX8_cell_16 : decode cX8_cell 16 = .ok (.iload_n 1, 1) := by decide +kernel
theorem dX8_cell_17 : decode cX8_cell 17 = .ok (.iaload, 1) := by decide +kernel
theorem dX8_cell_18 : decode cX8_cell 18 = .ok (.iconst (-1), 1) := by decide +kernel
theorem dX8_cell_19 : decode cX8_cell 19 = .ok (.if_icmp .ne 6, 3) := by decide +kernel
theorem dX8_cell_22 : decode cX8_cell 22 = .ok (.bipush (-11), 2) := by decide +kernel
theorem dX8_cell_24 : decode cX8_cell 24 = .ok (.ireturn, 1) := by decide +kernel
theorem dX8_cell_25 : decode cX8_cell 25 = .ok (.iload_n 2, 1) := by decide +kernel
theorem dX8_cell_26 : decode cX8_cell 26 = .ok (.iconst 0, 1) := by decide +kernel
theorem dX8_cell_27 : decode cX8_cell 27 = .ok (.aload_n 0, 1) := by decide +kernel
theorem dX8_cell_28 : decode cX8_cell 28 = .ok (.getfield 40, 3) := by decide +kernel
theorem dX8_cell_31 : decode cX8_cell 31 = .ok (.iload_n 1, 1) := by decide +kernel
theorem dX8_cell_32 : decode cX8_cell 32 = .ok (.iaload, 1) := by decide +kernel
theorem dX8_cell_33 : decode cX8_cell 33 = .ok (.iconst 1, 1) := by decide +kernel
theorem dX8_cell_34 : decode cX8_cell 34 = .ok (.isub, 1) := by decide +kernel
theorem dX8_cell_35 : decode cX8_cell 35 = .ok (.invokestatic 78, 3) := by decide +kernel
theorem dX8_cell_38 : decode cX8_cell 38 = .ok (.ifCond .ne 6, 3) := by decide +kernel
theorem dX8_cell_41 : decode cX8_cell 41 = .ok (.bipush (-12), 2) := by decide +kernel
theorem dX8_cell_43 : decode cX8_cell 43 = .ok (.ireturn, 1) := by decide +kernel
theorem dX8_cell_44 : decode cX8_cell 44 = .ok (.aload_n 0, 1) := by decide +kernel
theorem dX8_cell_45 : decode cX8_cell 45 = .ok (.getfield 43, 3) := by decide +kernel
theorem dX8_cell_48 : decode cX8_cell 48 = .ok (.bipush 40, 2) := by decide +kernel
theorem dX8_cell_50 : decode cX8_cell 50 = .ok (.iload_n 1, 1) := by decide +kernel
theorem dX8_cell_51 : decode cX8_cell 51 = .ok (.imul, 1) := by decide +kernel
theorem dX8_cell_52 : decode cX8_cell 52 = .ok (.iload_n 2, 1) := by decide +kernel
theorem dX8_cell_53 : decode cX8_cell 53 = .ok (.iadd, 1) := by decide +kernel
theorem dX8_cell_54 : decode cX8_cell 54 = .ok (.aload_n 0, 1) := by decide +kernel
theorem dX8_cell_55 : decode cX8_cell 55 = .ok (.getfield 37, 3) := by decide +kernel
theorem dX8_cell_58 : decode cX8_cell 58 = .ok (.iload_n 1, 1) := by decide +kernel
theorem dX8_cell_59 : decode cX8_cell 59 = .ok (.iaload, 1) := by decide +kernel
theorem dX8_cell_60 : decode cX8_cell 60 = .ok (.ifCond .ne 8, 3) := by decide +kernel
theorem dX8_cell_63 : decode cX8_cell 63 = .ok (.iload_n 3, 1) := by decide +kernel
theorem dX8_cell_64 : decode cX8_cell 64 = .ok (.i2b, 1) := by decide +kernel
theorem dX8_cell_65 : decode cX8_cell 65 = .ok (.goto 19, 3) := by decide +kernel
theorem dX8_cell_68 : decode cX8_cell 68 = .ok (.aload_n 0, 1) := by decide +kernel
theorem dX8_cell_69 : decode cX8_cell 69 = .ok (.getfield 37, 3) := by decide +kernel
theorem dX8_cell_72 : decode cX8_cell 72 = .ok (.iload_n 1, 1) := by decide +kernel
theorem dX8_cell_73 : decode cX8_cell 73 = .ok (.iaload, 1) := by decide +kernel
theorem dX8_cell_74 : decode cX8_cell 74 = .ok (.iconst 1, 1) := by decide +kernel
theorem dX8_cell_75 : decode cX8_cell 75 = .ok (.if_icmp .ne 8, 3) := by decide +kernel
theorem dX8_cell_78 : decode cX8_cell 78 = .ok (.iload_n 3, 1) := by decide +kernel
theorem dX8_cell_79 : decode cX8_cell 79 = .ok (.i2s, 1) := by decide +kernel
theorem dX8_cell_80 : decode cX8_cell 80 = .ok (.goto 4, 3) := by decide +kernel
theorem dX8_cell_83 : decode cX8_cell 83 = .ok (.iload_n 3, 1) := by decide +kernel
theorem dX8_cell_84 : decode cX8_cell 84 = .ok (.iastore, 1) := by decide +kernel
theorem dX8_cell_85 : decode cX8_cell 85 = .ok (.iconst 1, 1) := by decide +kernel
theorem dX8_cell_86 : decode cX8_cell 86 = .ok (.ireturn, 1) := by decide +kernel
theorem dX8_copy_0 : decode cX8_copy 0 = .ok (.iload_n 1, 1) := by decide +kernel
theorem dX8_copy_1 : decode cX8_copy 1 = .ok (.iconst 0, 1) := by decide +kernel
theorem dX8_copy_2 : decode cX8_copy 2 = .ok (.iconst 3, 1) := by decide +kernel
theorem dX8_copy_3 : decode cX8_copy 3 = .ok (.invokestatic 78, 3) := by decide +kernel
theorem dX8_copy_6 : decode cX8_copy 6 = .ok (.ifCond .eq 12, 3) := by decide +kernel
theorem dX8_copy_9 : decode cX8_copy 9 = .ok (.iload_n 3, 1) := by decide +kernel
theorem dX8_copy_10 : decode cX8_copy 10 = .ok (.iconst 0, 1) := by decide +kernel
theorem dX8_copy_11 : decode cX8_copy 11 = .ok (.iconst 3, 1) := by decide +kernel
theorem dX8_copy_12 : decode cX8_copy 12 = .ok (.invokestatic 78, 3) := by decide +kernel
theorem dX8_copy_15 : decode cX8_copy 15 = .ok (.ifCond .ne 6, 3) := by decide +kernel
theorem dX8_copy_18 : decode cX8_copy 18 = .ok (.bipush (-2), 2) := by decide +kernel
theorem dX8_copy_20 : decode cX8_copy 20 = .ok (.ireturn, 1) := by decide +kernel
theorem dX8_copy_21 : decode cX8_copy 21 = .ok (.aload_n 0, 1) := by decide +kernel
theorem dX8_copy_22 : decode cX8_copy 22 = .ok (.getfield 37, 3) := by decide +kernel
theorem dX8_copy_25 : decode cX8_copy 25 = .ok (.iload_n 1, 1) := by decide +kernel
theorem dX8_copy_26 : decode cX8_copy 26 = .ok (.iaload, 1) := by decide +kernel
theorem dX8_copy_27 : decode cX8_copy 27 = .ok (.iconst (-1), 1) := by decide +kernel
theorem dX8_copy_28 : decode cX8_copy 28 = .ok (.if_icmp .eq 13, 3) := by decide +kernel
theorem dX8_copy_31 : decode cX8_copy 31 = .ok (.aload_n 0, 1) := by decide +kernel
theorem dX8_copy_32 : decode cX8_copy 32 = .ok (.getfield 37, 3) := by decide +kernel
theorem dX8_copy_35 : decode cX8_copy 35 = .ok (.iload_n 3, 1) := by decide +kernel
theorem dX8_copy_36 : decode cX8_copy 36 = .ok (.iaload, 1) := by decide +kernel
theorem dX8_copy_37 : decode cX8_copy 37 = .ok (.iconst (-1), 1) := by decide +kernel
theorem dX8_copy_38 : decode cX8_copy 38 = .ok (.if_icmp .ne 6, 3) := by decide +kernel
theorem dX8_copy_41 : decode cX8_copy 41 = .ok (.bipush (-11), 2) := by decide +kernel
theorem dX8_copy_43 : decode cX8_copy 43 = .ok (.ireturn, 1) := by decide +kernel
theorem dX8_copy_44 : decode cX8_copy 44 = .ok (.aload_n 0, 1) := by decide +kernel
theorem dX8_copy_45 : decode cX8_copy 45 = .ok (.getfield 37, 3) := by decide +kernel
theorem dX8_copy_48 : decode cX8_copy 48 = .ok (.iload_n 1, 1) := by decide +kernel
theorem dX8_copy_49 : decode cX8_copy 49 = .ok (.iaload, 1) := by decide +kernel
theorem dX8_copy_50 : decode cX8_copy 50 = .ok (.aload_n 0, 1) := by decide +kernel
theorem dX8_copy_51 : decode cX8_copy 51 = .ok (.getfield 37, 3) := by decide +kernel
theorem dX8_copy_54 : decode cX8_copy 54 = .ok (.iload_n 3, 1) := by decide +kernel
theorem dX8_copy_55 : decode cX8_copy 55 = .ok (.iaload, 1) := by decide +kernel
theorem dX8_copy_56 : decode cX8_copy 56 = .ok (.if_icmp .eq 6, 3) := by decide +kernel
theorem dX8_copy_59 : decode cX8_copy 59 = .ok (.bipush (-13), 2) := by decide +kernel
theorem dX8_copy_61 : decode cX8_copy 61 = .ok (.ireturn, 1) := by decide +kernel
theorem dX8_copy_62 : decode cX8_copy 62 = .ok (.iload 5, 2) := by decide +kernel
theorem dX8_copy_64 : decode cX8_copy 64 = .ok (.ifCond .lt 60, 3) := by decide +kernel
theorem dX8_copy_67 : decode cX8_copy 67 = .ok (.iload_n 2, 1) := by decide +kernel
theorem dX8_copy_68 : decode cX8_copy 68 = .ok (.ifCond .lt 56, 3) := by decide +kernel
theorem dX8_copy_71 : decode cX8_copy 71 = .ok (.iload 4, 2) := by decide +kernel
theorem dX8_copy_73 : decode cX8_copy 73 = .ok (.ifCond .lt 51, 3) := by decide +kernel
theorem dX8_copy_76 : decode cX8_copy 76 = .ok (.iload_n 2, 1) := by decide +kernel
theorem dX8_copy_77 : decode cX8_copy 77 = .ok (.aload_n 0, 1) := by decide +kernel
theorem dX8_copy_78 : decode cX8_copy 78 = .ok (.getfield 40, 3) := by decide +kernel
theorem dX8_copy_81 : decode cX8_copy 81 = .ok (.iload_n 1, 1) := by decide +kernel
theorem dX8_copy_82 : decode cX8_copy 82 = .ok (.iaload, 1) := by decide +kernel
theorem dX8_copy_83 : decode cX8_copy 83 = .ok (.if_icmp .gt 41, 3) := by decide +kernel
theorem dX8_copy_86 : decode cX8_copy 86 = .ok (.iload 4, 2) := by decide +kernel
theorem dX8_copy_88 : decode cX8_copy 88 = .ok (.aload_n 0, 1) := by decide +kernel
theorem dX8_copy_89 : decode cX8_copy 89 = .ok (.getfield 40, 3) := by decide +kernel
theorem dX8_copy_92 : decode cX8_copy 92 = .ok (.iload_n 3, 1) := by decide +kernel
theorem dX8_copy_93 : decode cX8_copy 93 = .ok (.iaload, 1) := by decide +kernel
theorem dX8_copy_94 : decode cX8_copy 94 = .ok (.if_icmp .gt 30, 3) := by decide +kernel
theorem dX8_copy_97 : decode cX8_copy 97 = .ok (.iload 5, 2) := by decide +kernel
theorem dX8_copy_99 : decode cX8_copy 99 = .ok (.aload_n 0, 1) := by decide +kernel
theorem dX8_copy_100 : decode cX8_copy 100 = .ok (.getfield 40, 3) := by decide +kernel
theorem dX8_copy_103 : decode cX8_copy 103 = .ok (.iload_n 1, 1) := by decide +kernel
theorem dX8_copy_104 : decode cX8_copy 104 = .ok (.iaload, 1) := by decide +kernel
theorem dX8_copy_105 : decode cX8_copy 105 = .ok (.iload_n 2, 1) := by decide +kernel
theorem dX8_copy_106 : decode cX8_copy 106 = .ok (.isub, 1) := by decide +kernel
theorem dX8_copy_107 : decode cX8_copy 107 = .ok (.if_icmp .gt 17, 3) := by decide +kernel
theorem dX8_copy_110 : decode cX8_copy 110 = .ok (.iload 5, 2) := by decide +kernel
theorem dX8_copy_112 : decode cX8_copy 112 = .ok (.aload_n 0, 1) := by decide +kernel
theorem dX8_copy_113 : decode cX8_copy 113 = .ok (.getfield 40, 3) := by decide +kernel
theorem dX8_copy_116 : decode cX8_copy 116 = .ok (.iload_n 3, 1) := by decide +kernel
theorem dX8_copy_117 : decode cX8_copy 117 = .ok (.iaload, 1) := by decide +kernel
theorem dX8_copy_118 : decode cX8_copy 118 = .ok (.iload 4, 2) := by decide +kernel
theorem dX8_copy_120 : decode cX8_copy 120 = .ok (.isub, 1) := by decide +kernel
theorem dX8_copy_121 : decode cX8_copy 121 = .ok (.if_icmp .le 6, 3) := by decide +kernel
theorem dX8_copy_124 : decode cX8_copy 124 = .ok (.bipush (-12), 2) := by decide +kernel
theorem dX8_copy_126 : decode cX8_copy 126 = .ok (.ireturn, 1) := by decide +kernel
theorem dX8_copy_127 : decode cX8_copy 127 = .ok (.bipush 40, 2) := by decide +kernel
theorem dX8_copy_129 : decode cX8_copy 129 = .ok (.iload_n 1, 1) := by decide +kernel
theorem dX8_copy_130 : decode cX8_copy 130 = .ok (.imul, 1) := by decide +kernel
theorem dX8_copy_131 : decode cX8_copy 131 = .ok (.iload_n 2, 1) := by decide +kernel
theorem dX8_copy_132 : decode cX8_copy 132 = .ok (.iadd, 1) := by decide +kernel
theorem dX8_copy_133 : decode cX8_copy 133 = .ok (.istore 6, 2) := by decide +kernel
theorem dX8_copy_135 : decode cX8_copy 135 = .ok (.bipush 40, 2) := by decide +kernel
theorem dX8_copy_137 : decode cX8_copy 137 = .ok (.iload_n 3, 1) := by decide +kernel
theorem dX8_copy_138 : decode cX8_copy 138 = .ok (.imul, 1) := by decide +kernel
theorem dX8_copy_139 : decode cX8_copy 139 = .ok (.iload 4, 2) := by decide +kernel
theorem dX8_copy_141 : decode cX8_copy 141 = .ok (.iadd, 1) := by decide +kernel
theorem dX8_copy_142 : decode cX8_copy 142 = .ok (.istore 7, 2) := by decide +kernel
theorem dX8_copy_144 : decode cX8_copy 144 = .ok (.iconst 0, 1) := by decide +kernel
theorem dX8_copy_145 : decode cX8_copy 145 = .ok (.istore 8, 2) := by decide +kernel
theorem dX8_copy_147 : decode cX8_copy 147 = .ok (.iload 8, 2) := by decide +kernel
theorem dX8_copy_149 : decode cX8_copy 149 = .ok (.iload 5, 2) := by decide +kernel
theorem dX8_copy_151 : decode cX8_copy 151 = .ok (.if_icmp .ge 50, 3) := by decide +kernel
theorem dX8_copy_154 : decode cX8_copy 154 = .ok (.iload 6, 2) := by decide +kernel
theorem dX8_copy_156 : decode cX8_copy 156 = .ok (.iload 7, 2) := by decide +kernel
theorem dX8_copy_158 : decode cX8_copy 158 = .ok (.if_icmp .ge 13, 3) := by decide +kernel
theorem dX8_copy_161 : decode cX8_copy 161 = .ok (.iload 5, 2) := by decide +kernel
theorem dX8_copy_163 : decode cX8_copy 163 = .ok (.iconst 1, 1) := by decide +kernel
theorem dX8_copy_164 : decode cX8_copy 164 = .ok (.isub, 1) := by decide +kernel
theorem dX8_copy_165 : decode cX8_copy 165 = .ok (.iload 8, 2) := by decide +kernel
theorem dX8_copy_167 : decode cX8_copy 167 = .ok (.isub, 1) := by decide +kernel
theorem dX8_copy_168 : decode cX8_copy 168 = .ok (.goto 5, 3) := by decide +kernel
theorem dX8_copy_171 : decode cX8_copy 171 = .ok (.iload 8, 2) := by decide +kernel
theorem dX8_copy_173 : decode cX8_copy 173 = .ok (.istore 9, 2) := by decide +kernel
theorem dX8_copy_175 : decode cX8_copy 175 = .ok (.aload_n 0, 1) := by decide +kernel
theorem dX8_copy_176 : decode cX8_copy 176 = .ok (.getfield 43, 3) := by decide +kernel
theorem dX8_copy_179 : decode cX8_copy 179 = .ok (.iload 7, 2) := by decide +kernel
theorem dX8_copy_181 : decode cX8_copy 181 = .ok (.iload 9, 2) := by decide +kernel
theorem dX8_copy_183 : decode cX8_copy 183 = .ok (.iadd, 1) := by decide +kernel
theorem dX8_copy_184 : decode cX8_copy 184 = .ok (.aload_n 0, 1) := by decide +kernel
theorem dX8_copy_185 : decode cX8_copy 185 = .ok (.getfield 43, 3) := by decide +kernel
theorem dX8_copy_188 : decode cX8_copy 188 = .ok (.iload 6, 2) := by decide +kernel
theorem dX8_copy_190 : decode cX8_copy 190 = .ok (.iload 9, 2) := by decide +kernel
theorem dX8_copy_192 : decode cX8_copy 192 = .ok (.iadd, 1) := by decide +kernel
theorem dX8_copy_193 : decode cX8_copy 193 = .ok (.iaload, 1) := by decide +kernel
theorem dX8_copy_194 : decode cX8_copy 194 = .ok (.iastore, 1) := by decide +kernel
theorem dX8_copy_195 : decode cX8_copy 195 = .ok (.iinc 8 1, 3) := by decide +kernel
theorem dX8_copy_198 : decode cX8_copy 198 = .ok (.goto (-51), 3) := by decide +kernel
theorem dX8_copy_201 : decode cX8_copy 201 = .ok (.iload 5, 2) := by decide +kernel
theorem dX8_copy_203 : decode cX8_copy 203 = .ok (.ireturn, 1) := by decide +kernel
theorem dX8_jokesBy_0 : decode cX8_jokesBy 0 = .ok (.iload_n 1, 1) := by decide +kernel
theorem dX8_jokesBy_1 : decode cX8_jokesBy 1 = .ok (.iconst 0, 1) := by decide +kernel
theorem dX8_jokesBy_2 : decode cX8_jokesBy 2 = .ok (.iconst 3, 1) := by decide +kernel
theorem dX8_jokesBy_3 : decode cX8_jokesBy 3 = .ok (.invokestatic 78, 3) := by decide +kernel
theorem dX8_jokesBy_6 : decode cX8_jokesBy 6 = .ok (.ifCond .eq 22, 3) := by decide +kernel
theorem dX8_jokesBy_9 : decode cX8_jokesBy 9 = .ok (.iload_n 2, 1) := by decide +kernel
theorem dX8_jokesBy_10 : decode cX8_jokesBy 10 = .ok (.iconst 0, 1) := by decide +kernel
theorem dX8_jokesBy_11 : decode cX8_jokesBy 11 = .ok (.iconst 2, 1) := by decide +kernel
theorem dX8_jokesBy_12 : decode cX8_jokesBy 12 = .ok (.invokestatic 78, 3) := by decide +kernel
theorem dX8_jokesBy_15 : decode cX8_jokesBy 15 = .ok (.ifCond .eq 13, 3) := by decide +kernel
theorem dX8_jokesBy_18 : decode cX8_jokesBy 18 = .ok (.iload 4, 2) := by decide +kernel
theorem dX8_jokesBy_20 : decode cX8_jokesBy 20 = .ok (.iconst 0, 1) := by decide +kernel
theorem dX8_jokesBy_21 : decode cX8_jokesBy 21 = .ok (.iconst 5, 1) := by decide +kernel
theorem dX8_jokesBy_22 : decode cX8_jokesBy 22 = .ok (.invokestatic 78, 3) := by decide +kernel
theorem dX8_jokesBy_25 : decode cX8_jokesBy 25 = .ok (.ifCond .ne 6, 3) := by decide +kernel
theorem dX8_jokesBy_28 : decode cX8_jokesBy 28 = .ok (.bipush (-2), 2) := by decide +kernel
theorem dX8_jokesBy_30 : decode cX8_jokesBy 30 = .ok (.ireturn, 1) := by decide +kernel
theorem dX8_jokesBy_31 : decode cX8_jokesBy 31 = .ok (.aload_n 0, 1) := by decide +kernel
theorem dX8_jokesBy_32 : decode cX8_jokesBy 32 = .ok (.getfield 37, 3) := by decide +kernel
theorem dX8_jokesBy_35 : decode cX8_jokesBy 35 = .ok (.iload_n 1, 1) := by decide +kernel
theorem dX8_jokesBy_36 : decode cX8_jokesBy 36 = .ok (.iaload, 1) := by decide +kernel
theorem dX8_jokesBy_37 : decode cX8_jokesBy 37 = .ok (.iconst (-1), 1) := by decide +kernel
theorem dX8_jokesBy_38 : decode cX8_jokesBy 38 = .ok (.if_icmp .ne 6, 3) := by decide +kernel
theorem dX8_jokesBy_41 : decode cX8_jokesBy 41 = .ok (.bipush (-11), 2) := by decide +kernel
theorem dX8_jokesBy_43 : decode cX8_jokesBy 43 = .ok (.ireturn, 1) := by decide +kernel
theorem dX8_jokesBy_44 : decode cX8_jokesBy 44 = .ok (.aload_n 0, 1) := by decide +kernel
theorem dX8_jokesBy_45 : decode cX8_jokesBy 45 = .ok (.getfield 37, 3) := by decide +kernel
theorem dX8_jokesBy_48 : decode cX8_jokesBy 48 = .ok (.iload_n 1, 1) := by decide +kernel
theorem dX8_jokesBy_49 : decode cX8_jokesBy 49 = .ok (.iaload, 1) := by decide +kernel
theorem dX8_jokesBy_50 : decode cX8_jokesBy 50 = .ok (.iload_n 2, 1) := by decide +kernel
theorem dX8_jokesBy_51 : decode cX8_jokesBy 51 = .ok (.if_icmp .eq 6, 3) := by decide +kernel
theorem dX8_jokesBy_54 : decode cX8_jokesBy 54 = .ok (.bipush (-13), 2) := by decide +kernel
theorem dX8_jokesBy_56 : decode cX8_jokesBy 56 = .ok (.ireturn, 1) := by decide +kernel
theorem dX8_jokesBy_57 : decode cX8_jokesBy 57 = .ok (.iconst 0, 1) := by decide +kernel
theorem dX8_jokesBy_58 : decode cX8_jokesBy 58 = .ok (.istore 5, 2) := by decide +kernel
theorem dX8_jokesBy_60 : decode cX8_jokesBy 60 = .ok (.iconst 0, 1) := by decide +kernel
theorem dX8_jokesBy_61 : decode cX8_jokesBy 61 = .ok (.istore 6, 2) := by decide +kernel
theorem dX8_jokesBy_63 : decode cX8_jokesBy 63 = .ok (.iload 6, 2) := by decide +kernel
theorem dX8_jokesBy_65 : decode cX8_jokesBy 65 = .ok (.iload 4, 2) := by decide +kernel
theorem dX8_jokesBy_67 : decode cX8_jokesBy 67 = .ok (.if_icmp .ge 85, 3) := by decide +kernel
theorem dX8_jokesBy_70 : decode cX8_jokesBy 70 = .ok (.iload_n 3, 1) := by decide +kernel
theorem dX8_jokesBy_71 : decode cX8_jokesBy 71 = .ok (.iconst 2, 1) := by decide +kernel
theorem dX8_jokesBy_72 : decode cX8_jokesBy 72 = .ok (.iload 6, 2) := by decide +kernel
theorem dX8_jokesBy_74 : decode cX8_jokesBy 74 = .ok (.imul, 1) := by decide +kernel
theorem dX8_jokesBy_75 : decode cX8_jokesBy 75 = .ok (.iadd, 1) := by decide +kernel
theorem dX8_jokesBy_76 : decode cX8_jokesBy 76 = .ok (.istore 7, 2) := by decide +kernel
theorem dX8_jokesBy_78 : decode cX8_jokesBy 78 = .ok (.iload_n 3, 1) := by decide +kernel
theorem dX8_jokesBy_79 : decode cX8_jokesBy 79 = .ok (.ifCond .lt 22, 3) := by decide +kernel
theorem dX8_jokesBy_82 : decode cX8_jokesBy 82 = .ok (.iload 7, 2) := by decide +kernel
theorem dX8_jokesBy_84 : decode cX8_jokesBy 84 = .ok (.iload_n 3, 1) := by decide +kernel
theorem dX8_jokesBy_85 : decode cX8_jokesBy 85 = .ok (.if_icmp .lt 16, 3) := by decide +kernel
theorem dX8_jokesBy_88 : decode cX8_jokesBy 88 = .ok (.iload 7, 2) := by decide +kernel
theorem dX8_jokesBy_90 : decode cX8_jokesBy 90 = .ok (.aload_n 0, 1) := by decide +kernel
theorem dX8_jokesBy_91 : decode cX8_jokesBy 91 = .ok (.getfield 40, 3) := by decide +kernel
theorem dX8_jokesBy_94 : decode cX8_jokesBy 94 = .ok (.iload_n 1, 1) := by decide +kernel
theorem dX8_jokesBy_95 : decode cX8_jokesBy 95 = .ok (.iaload, 1) := by decide +kernel
theorem dX8_jokesBy_96 : decode cX8_jokesBy 96 = .ok (.iconst 2, 1) := by decide +kernel
theorem dX8_jokesBy_97 : decode cX8_jokesBy 97 = .ok (.isub, 1) := by decide +kernel
theorem dX8_jokesBy_98 : decode cX8_jokesBy 98 = .ok (.if_icmp .le 6, 3) := by decide +kernel
theorem dX8_jokesBy_101 : decode cX8_jokesBy 101 = .ok (.bipush (-12), 2) := by decide +kernel
theorem dX8_jokesBy_103 : decode cX8_jokesBy 103 = .ok (.ireturn, 1) := by decide +kernel
theorem dX8_jokesBy_104 : decode cX8_jokesBy 104 = .ok (.bipush 40, 2) := by decide +kernel
theorem dX8_jokesBy_106 : decode cX8_jokesBy 106 = .ok (.iload_n 1, 1) := by decide +kernel
theorem dX8_jokesBy_107 : decode cX8_jokesBy 107 = .ok (.imul, 1) := by decide +kernel
theorem dX8_jokesBy_108 : decode cX8_jokesBy 108 = .ok (.iload 7, 2) := by decide +kernel
theorem dX8_jokesBy_110 : decode cX8_jokesBy 110 = .ok (.iadd, 1) := by decide +kernel
theorem dX8_jokesBy_111 : decode cX8_jokesBy 111 = .ok (.istore 8, 2) := by decide +kernel
theorem dX8_jokesBy_113 : decode cX8_jokesBy 113 = .ok (.iload 5, 2) := by decide +kernel
theorem dX8_jokesBy_115 : decode cX8_jokesBy 115 = .ok (.aload_n 0, 1) := by decide +kernel
theorem dX8_jokesBy_116 : decode cX8_jokesBy 116 = .ok (.aload_n 0, 1) := by decide +kernel
theorem dX8_jokesBy_117 : decode cX8_jokesBy 117 = .ok (.getfield 43, 3) := by decide +kernel
theorem dX8_jokesBy_120 : decode cX8_jokesBy 120 = .ok (.iload 8, 2) := by decide +kernel
theorem dX8_jokesBy_122 : decode cX8_jokesBy 122 = .ok (.iaload, 1) := by decide +kernel
theorem dX8_jokesBy_123 : decode cX8_jokesBy 123 = .ok (.aload_n 0, 1) := by decide +kernel
theorem dX8_jokesBy_124 : decode cX8_jokesBy 124 = .ok (.getfield 43, 3) := by decide +kernel
theorem dX8_jokesBy_127 : decode cX8_jokesBy 127 = .ok (.iload 8, 2) := by decide +kernel
theorem dX8_jokesBy_129 : decode cX8_jokesBy 129 = .ok (.iconst 1, 1) := by decide +kernel
theorem dX8_jokesBy_130 : decode cX8_jokesBy 130 = .ok (.iadd, 1) := by decide +kernel
theorem dX8_jokesBy_131 : decode cX8_jokesBy 131 = .ok (.iaload, 1) := by decide +kernel
theorem dX8_jokesBy_132 : decode cX8_jokesBy 132 = .ok (.invokevirtual 310, 3) := by decide +kernel
theorem dX8_jokesBy_135 : decode cX8_jokesBy 135 = .ok (.ifCond .lt 7, 3) := by decide +kernel
theorem dX8_jokesBy_138 : decode cX8_jokesBy 138 = .ok (.iconst 1, 1) := by decide +kernel
theorem dX8_jokesBy_139 : decode cX8_jokesBy 139 = .ok (.goto 4, 3) := by decide +kernel
theorem dX8_jokesBy_142 : decode cX8_jokesBy 142 = .ok (.iconst 0, 1) := by decide +kernel
theorem dX8_jokesBy_143 : decode cX8_jokesBy 143 = .ok (.iadd, 1) := by decide +kernel
theorem dX8_jokesBy_144 : decode cX8_jokesBy 144 = .ok (.istore 5, 2) := by decide +kernel
theorem dX8_jokesBy_146 : decode cX8_jokesBy 146 = .ok (.iinc 6 1, 3) := by decide +kernel
theorem dX8_jokesBy_149 : decode cX8_jokesBy 149 = .ok (.goto (-86), 3) := by decide +kernel
theorem dX8_jokesBy_152 : decode cX8_jokesBy 152 = .ok (.iload 5, 2) := by decide +kernel
theorem dX8_jokesBy_154 : decode cX8_jokesBy 154 = .ok (.ireturn, 1) := by decide +kernel
theorem dX8_isUnder_0 : decode cX8_isUnder 0 = .ok (.iload_n 1, 1) := by decide +kernel
theorem dX8_isUnder_1 : decode cX8_isUnder 1 = .ok (.ifCond .eq 28, 3) := by decide +kernel
theorem dX8_isUnder_4 : decode cX8_isUnder 4 = .ok (.iload_n 0, 1) := by decide +kernel
theorem dX8_isUnder_5 : decode cX8_isUnder 5 = .ok (.iload_n 1, 1) := by decide +kernel
theorem dX8_isUnder_6 : decode cX8_isUnder 6 = .ok (.if_icmp .eq 23, 3) := by decide +kernel
theorem dX8_isUnder_9 : decode cX8_isUnder 9 = .ok (.iload_n 1, 1) := by decide +kernel
theorem dX8_isUnder_10 : decode cX8_isUnder 10 = .ok (.iconst 1, 1) := by decide +kernel
theorem dX8_isUnder_11 : decode cX8_isUnder 11 = .ok (.if_icmp .ne 8, 3) := by decide +kernel
theorem dX8_isUnder_14 : decode cX8_isUnder 14 = .ok (.iload_n 0, 1) := by decide +kernel
theorem dX8_isUnder_15 : decode cX8_isUnder 15 = .ok (.iconst 3, 1) := by decide +kernel
theorem dX8_isUnder_16 : decode cX8_isUnder 16 = .ok (.if_icmp .eq 13, 3) := by decide +kernel
theorem dX8_isUnder_19 : decode cX8_isUnder 19 = .ok (.iload_n 1, 1) := by decide +kernel
theorem dX8_isUnder_20 : decode cX8_isUnder 20 = .ok (.iconst 2, 1) := by decide +kernel
theorem dX8_isUnder_21 : decode cX8_isUnder 21 = .ok (.if_icmp .ne 12, 3) := by decide +kernel
theorem dX8_isUnder_24 : decode cX8_isUnder 24 = .ok (.iload_n 0, 1) := by decide +kernel
theorem dX8_isUnder_25 : decode cX8_isUnder 25 = .ok (.iconst 4, 1) := by decide +kernel
theorem dX8_isUnder_26 : decode cX8_isUnder 26 = .ok (.if_icmp .ne 7, 3) := by decide +kernel
theorem dX8_isUnder_29 : decode cX8_isUnder 29 = .ok (.iconst 1, 1) := by decide +kernel
theorem dX8_isUnder_30 : decode cX8_isUnder 30 = .ok (.goto 4, 3) := by decide +kernel
theorem dX8_isUnder_33 : decode cX8_isUnder 33 = .ok (.iconst 0, 1) := by decide +kernel
theorem dX8_isUnder_34 : decode cX8_isUnder 34 = .ok (.ireturn, 1) := by decide +kernel
theorem dX8_taken_0 : decode cX8_taken 0 = .ok (.iload_n 2, 1) := by decide +kernel
theorem dX8_taken_1 : decode cX8_taken 1 = .ok (.iconst 0, 1) := by decide +kernel
theorem dX8_taken_2 : decode cX8_taken 2 = .ok (.bipush 6, 2) := by decide +kernel
theorem dX8_taken_4 : decode cX8_taken 4 = .ok (.invokestatic 78, 3) := by decide +kernel
theorem dX8_taken_7 : decode cX8_taken 7 = .ok (.ifCond .ne 6, 3) := by decide +kernel
theorem dX8_taken_10 : decode cX8_taken 10 = .ok (.bipush (-2), 2) := by decide +kernel
theorem dX8_taken_12 : decode cX8_taken 12 = .ok (.ireturn, 1) := by decide +kernel
theorem dX8_taken_13 : decode cX8_taken 13 = .ok (.iload_n 1, 1) := by decide +kernel
theorem dX8_taken_14 : decode cX8_taken 14 = .ok (.iconst 0, 1) := by decide +kernel
theorem dX8_taken_15 : decode cX8_taken 15 = .ok (.bipush 10, 2) := by decide +kernel
theorem dX8_taken_17 : decode cX8_taken 17 = .ok (.invokestatic 78, 3) := by decide +kernel
theorem dX8_taken_20 : decode cX8_taken 20 = .ok (.ifCond .ne 6, 3) := by decide +kernel
theorem dX8_taken_23 : decode cX8_taken 23 = .ok (.bipush (-12), 2) := by decide +kernel
theorem dX8_taken_25 : decode cX8_taken 25 = .ok (.ireturn, 1) := by decide +kernel
theorem dX8_taken_26 : decode cX8_taken 26 = .ok (.iload_n 1, 1) := by decide +kernel
theorem dX8_taken_27 : decode cX8_taken 27 = .ok (.iconst 5, 1) := by decide +kernel
theorem dX8_taken_28 : decode cX8_taken 28 = .ok (.if_icmp .lt 42, 3) := by decide +kernel
theorem dX8_taken_31 : decode cX8_taken 31 = .ok (.iload_n 1, 1) := by decide +kernel
theorem dX8_taken_32 : decode cX8_taken 32 = .ok (.iconst 5, 1) := by decide +kernel
theorem dX8_taken_33 : decode cX8_taken 33 = .ok (.isub, 1) := by decide +kernel
theorem dX8_taken_34 : decode cX8_taken 34 = .ok (.aload_n 0, 1) := by decide +kernel
theorem dX8_taken_35 : decode cX8_taken 35 = .ok (.getfield 82, 3) := by decide +kernel
theorem dX8_taken_38 : decode cX8_taken 38 = .ok (.if_icmp .lt 8, 3) := by decide +kernel
theorem dX8_taken_41 : decode cX8_taken 41 = .ok (.bipush (-11), 2) := by decide +kernel
theorem dX8_taken_43 : decode cX8_taken 43 = .ok (.goto 26, 3) := by decide +kernel
theorem dX8_taken_46 : decode cX8_taken 46 = .ok (.iload_n 2, 1) := by decide +kernel
theorem dX8_taken_47 : decode cX8_taken 47 = .ok (.bipush 6, 2) := by decide +kernel
theorem dX8_taken_49 : decode cX8_taken 49 = .ok (.if_icmp .ne 18, 3) := by decide +kernel
theorem dX8_taken_52 : decode cX8_taken 52 = .ok (.aload_n 0, 1) := by decide +kernel
theorem dX8_taken_53 : decode cX8_taken 53 = .ok (.getfield 19, 3) := by decide +kernel
theorem dX8_taken_56 : decode cX8_taken 56 = .ok (.iconst 5, 1) := by decide +kernel
theorem dX8_taken_57 : decode cX8_taken 57 = .ok (.iload_n 1, 1) := by decide +kernel
theorem dX8_taken_58 : decode cX8_taken 58 = .ok (.iconst 5, 1) := by decide +kernel
theorem dX8_taken_59 : decode cX8_taken 59 = .ok (.isub, 1) := by decide +kernel
theorem dX8_taken_60 : decode cX8_taken 60 = .ok (.imul, 1) := by decide +kernel
theorem dX8_taken_61 : decode cX8_taken 61 = .ok (.iconst 1, 1) := by decide +kernel
theorem dX8_taken_62 : decode cX8_taken 62 = .ok (.iadd, 1) := by decide +kernel
theorem dX8_taken_63 : decode cX8_taken 63 = .ok (.iaload, 1) := by decide +kernel
theorem dX8_taken_64 : decode cX8_taken 64 = .ok (.goto 5, 3) := by decide +kernel
theorem dX8_taken_67 : decode cX8_taken 67 = .ok (.bipush (-13), 2) := by decide +kernel
theorem dX8_taken_69 : decode cX8_taken 69 = .ok (.ireturn, 1) := by decide +kernel
theorem dX8_taken_70 : decode cX8_taken 70 = .ok (.iload_n 1, 1) := by decide +kernel
theorem dX8_taken_71 : decode cX8_taken 71 = .ok (.aload_n 0, 1) := by decide +kernel
theorem dX8_taken_72 : decode cX8_taken 72 = .ok (.getfield 75, 3) := by decide +kernel
theorem dX8_taken_75 : decode cX8_taken 75 = .ok (.if_icmp .lt 8, 3) := by decide +kernel
theorem dX8_taken_78 : decode cX8_taken 78 = .ok (.bipush (-11), 2) := by decide +kernel
theorem dX8_taken_80 : decode cX8_taken 80 = .ok (.goto 28, 3) := by decide +kernel
theorem dX8_taken_83 : decode cX8_taken 83 = .ok (.iload_n 2, 1) := by decide +kernel
theorem dX8_taken_84 : decode cX8_taken 84 = .ok (.bipush 6, 2) := by decide +kernel
theorem dX8_taken_86 : decode cX8_taken 86 = .ok (.if_icmp .ge 20, 3) := by decide +kernel
theorem dX8_taken_89 : decode cX8_taken 89 = .ok (.aload_n 0, 1) := by decide +kernel
theorem dX8_taken_90 : decode cX8_taken 90 = .ok (.getfield 7, 3) := by decide +kernel
theorem dX8_taken_93 : decode cX8_taken 93 = .ok (.iload_n 1, 1) := by decide +kernel
theorem dX8_taken_94 : decode cX8_taken 94 = .ok (.iaload, 1) := by decide +kernel
theorem dX8_taken_95 : decode cX8_taken 95 = .ok (.iload_n 2, 1) := by decide +kernel
theorem dX8_taken_96 : decode cX8_taken 96 = .ok (.invokestatic 313, 3) := by decide +kernel
theorem dX8_taken_99 : decode cX8_taken 99 = .ok (.ifCond .eq 7, 3) := by decide +kernel
theorem dX8_taken_102 : decode cX8_taken 102 = .ok (.iload_n 1, 1) := by decide +kernel
theorem dX8_taken_103 : decode cX8_taken 103 = .ok (.goto 5, 3) := by decide +kernel
theorem dX8_taken_106 : decode cX8_taken 106 = .ok (.bipush (-13), 2) := by decide +kernel
theorem dX8_taken_108 : decode cX8_taken 108 = .ok (.ireturn, 1) := by decide +kernel
theorem dL_law_0 : decode cL_law 0 = .ok (.new 7, 3) := by decide +kernel
theorem dL_law_3 : decode cL_law 3 = .ok (.dup, 1) := by decide +kernel
theorem dL_law_4 : decode cL_law 4 = .ok (.invokespecial 9, 3) := by decide +kernel
theorem dL_law_7 : decode cL_law 7 = .ok (.astore_n 1, 1) := by decide +kernel
theorem dL_law_8 : decode cL_law 8 = .ok (.new 10, 3) := by decide +kernel
theorem dL_law_11 : decode cL_law 11 = .ok (.dup, 1) := by decide +kernel
theorem dL_law_12 : decode cL_law 12 = .ok (.invokespecial 12, 3) := by decide +kernel
theorem dL_law_15 : decode cL_law 15 = .ok (.astore_n 2, 1) := by decide +kernel
theorem dL_law_16 : decode cL_law 16 = .ok (.iconst 0, 1) := by decide +kernel
theorem dL_law_17 : decode cL_law 17 = .ok (.istore_n 3, 1) := by decide +kernel
theorem dL_law_18 : decode cL_law 18 = .ok (.iload_n 3, 1) := by decide +kernel
theorem dL_law_19 : decode cL_law 19 = .ok (.aload_n 0, 1) := by decide +kernel
theorem dL_law_20 : decode cL_law 20 = .ok (.arraylength, 1) := by decide +kernel
theorem dL_law_21 : decode cL_law 21 = .ok (.bipush 7, 2) := by decide +kernel
theorem dL_law_23 : decode cL_law 23 = .ok (.isub, 1) := by decide +kernel
theorem dL_law_24 : decode cL_law 24 = .ok (.if_icmp .gt 1969, 3) := by decide +kernel
theorem dL_law_27 : decode cL_law 27 = .ok (.aload_n 0, 1) := by decide +kernel
theorem dL_law_28 : decode cL_law 28 = .ok (.iload_n 3, 1) := by decide +kernel
theorem dL_law_29 : decode cL_law 29 = .ok (.iaload, 1) := by decide +kernel
theorem dL_law_30 : decode cL_law 30 = .ok (.bipush 63, 2) := by decide +kernel
theorem dL_law_32 : decode cL_law 32 = .ok (.iand, 1) := by decide +kernel
theorem dL_law_33 : decode cL_law 33 = .ok (.tableswitch 1954 0 48 #[211, 234, 309, 322, 345, 398, 431, 464, 497, 540, 573, 606, 639, 682, 705, 718, 751, 784, 827, 850, 873, 906, 939, 962, 995, 1038, 1071, 1114, 1157, 1200, 1244, 1288, 1321, 1354, 1397, 1440, 1483, 1506, 1539, 1573, 1606, 1639, 1693, 1706, 1719, 1762, 1805, 1868, 1921], 211) := by decide +kernel
theorem dL_law_244 : decode cL_law 244 = .ok (.aload_n 1, 1) := by decide +kernel
theorem dL_law_245 : decode cL_law 245 = .ok (.aload_n 0, 1) := by decide +kernel
theorem dL_law_246 : decode cL_law 246 = .ok (.iload_n 3, 1) := by decide +kernel
theorem dL_law_247 : decode cL_law 247 = .ok (.iconst 1, 1) := by decide +kernel
theorem dL_law_248 : decode cL_law 248 = .ok (.iadd, 1) := by decide +kernel
theorem dL_law_249 : decode cL_law 249 = .ok (.iaload, 1) := by decide +kernel
theorem dL_law_250 : decode cL_law 250 = .ok (.invokevirtual 13, 3) := by decide +kernel
theorem dL_law_253 : decode cL_law 253 = .ok (.aload_n 2, 1) := by decide +kernel
theorem dL_law_254 : decode cL_law 254 = .ok (.aload_n 0, 1) := by decide +kernel
theorem dL_law_255 : decode cL_law 255 = .ok (.iload_n 3, 1) := by decide +kernel
theorem dL_law_256 : decode cL_law 256 = .ok (.iconst 1, 1) := by decide +kernel
theorem dL_law_257 : decode cL_law 257 = .ok (.iadd, 1) := by decide +kernel
theorem dL_law_258 : decode cL_law 258 = .ok (.iaload, 1) := by decide +kernel
theorem dL_law_259 : decode cL_law 259 = .ok (.invokevirtual 17, 3) := by decide +kernel
theorem dL_law_262 : decode cL_law 262 = .ok (.if_icmp .eq 1725, 3) := by decide +kernel
theorem dL_law_265 : decode cL_law 265 = .ok (.iconst 0, 1) := by decide +kernel
theorem dL_law_266 : decode cL_law 266 = .ok (.ireturn, 1) := by decide +kernel
theorem dL_law_267 : decode cL_law 267 = .ok (.aload_n 1, 1) := by decide +kernel
theorem dL_law_268 : decode cL_law 268 = .ok (.aload_n 0, 1) := by decide +kernel
theorem dL_law_269 : decode cL_law 269 = .ok (.iload_n 3, 1) := by decide +kernel
theorem dL_law_270 : decode cL_law 270 = .ok (.iconst 1, 1) := by decide +kernel
theorem dL_law_271 : decode cL_law 271 = .ok (.iadd, 1) := by decide +kernel
theorem dL_law_272 : decode cL_law 272 = .ok (.iaload, 1) := by decide +kernel
theorem dL_law_273 : decode cL_law 273 = .ok (.aload_n 0, 1) := by decide +kernel
theorem dL_law_274 : decode cL_law 274 = .ok (.iload_n 3, 1) := by decide +kernel
theorem dL_law_275 : decode cL_law 275 = .ok (.iconst 2, 1) := by decide +kernel
theorem dL_law_276 : decode cL_law 276 = .ok (.iadd, 1) := by decide +kernel
theorem dL_law_277 : decode cL_law 277 = .ok (.iaload, 1) := by decide +kernel
theorem dL_law_278 : decode cL_law 278 = .ok (.aload_n 0, 1) := by decide +kernel
theorem dL_law_279 : decode cL_law 279 = .ok (.iload_n 3, 1) := by decide +kernel
theorem dL_law_280 : decode cL_law 280 = .ok (.iconst 3, 1) := by decide +kernel
theorem dL_law_281 : decode cL_law 281 = .ok (.iadd, 1) := by decide +kernel
theorem dL_law_282 : decode cL_law 282 = .ok (.iaload, 1) := by decide +kernel
theorem dL_law_283 : decode cL_law 283 = .ok (.aload_n 0, 1) := by decide +kernel
theorem dL_law_284 : decode cL_law 284 = .ok (.iload_n 3, 1) := by decide +kernel
theorem dL_law_285 : decode cL_law 285 = .ok (.iconst 4, 1) := by decide +kernel
theorem dL_law_286 : decode cL_law 286 = .ok (.iadd, 1) := by decide +kernel
theorem dL_law_287 : decode cL_law 287 = .ok (.iaload, 1) := by decide +kernel
theorem dL_law_288 : decode cL_law 288 = .ok (.aload_n 0, 1) := by decide +kernel
theorem dL_law_289 : decode cL_law 289 = .ok (.iload_n 3, 1) := by decide +kernel
theorem dL_law_290 : decode cL_law 290 = .ok (.iconst 5, 1) := by decide +kernel
theorem dL_law_291 : decode cL_law 291 = .ok (.iadd, 1) := by decide +kernel
theorem dL_law_292 : decode cL_law 292 = .ok (.iaload, 1) := by decide +kernel
theorem dL_law_293 : decode cL_law 293 = .ok (.aload_n 0, 1) := by decide +kernel
theorem dL_law_294 : decode cL_law 294 = .ok (.iload_n 3, 1) := by decide +kernel
theorem dL_law_295 : decode cL_law 295 = .ok (.bipush 6, 2) := by decide +kernel
theorem dL_law_297 : decode cL_law 297 = .ok (.iadd, 1) := by decide +kernel
theorem dL_law_298 : decode cL_law 298 = .ok (.iaload, 1) := by decide +kernel
theorem dL_law_299 : decode cL_law 299 = .ok (.invokevirtual 18, 3) := by decide +kernel
theorem dL_law_302 : decode cL_law 302 = .ok (.aload_n 2, 1) := by decide +kernel
theorem dL_law_303 : decode cL_law 303 = .ok (.aload_n 0, 1) := by decide +kernel
theorem dL_law_304 : decode cL_law 304 = .ok (.iload_n 3, 1) := by decide +kernel
theorem dL_law_305 : decode cL_law 305 = .ok (.iconst 1, 1) := by decide +kernel
theorem dL_law_306 : decode cL_law 306 = .ok (.iadd, 1) := by decide +kernel
theorem dL_law_307 : decode cL_law 307 = .ok (.iaload, 1) := by decide +kernel
theorem dL_law_308 : decode cL_law 308 = .ok (.aload_n 0, 1) := by decide +kernel
theorem dL_law_309 : decode cL_law 309 = .ok (.iload_n 3, 1) := by decide +kernel
theorem dL_law_310 : decode cL_law 310 = .ok (.iconst 2, 1) := by decide +kernel
theorem dL_law_311 : decode cL_law 311 = .ok (.iadd, 1) := by decide +kernel
theorem dL_law_312 : decode cL_law 312 = .ok (.iaload, 1) := by decide +kernel
theorem dL_law_313 : decode cL_law 313 = .ok (.aload_n 0, 1) := by decide +kernel
theorem dL_law_314 : decode cL_law 314 = .ok (.iload_n 3, 1) := by decide +kernel
theorem dL_law_315 : decode cL_law 315 = .ok (.iconst 3, 1) := by decide +kernel
theorem dL_law_316 : decode cL_law 316 = .ok (.iadd, 1) := by decide +kernel
theorem dL_law_317 : decode cL_law 317 = .ok (.iaload, 1) := by decide +kernel
theorem dL_law_318 : decode cL_law 318 = .ok (.aload_n 0, 1) := by decide +kernel
theorem dL_law_319 : decode cL_law 319 = .ok (.iload_n 3, 1) := by decide +kernel
theorem dL_law_320 : decode cL_law 320 = .ok (.iconst 4, 1) := by decide +kernel
theorem dL_law_321 : decode cL_law 321 = .ok (.iadd, 1) := by decide +kernel
theorem dL_law_322 : decode cL_law 322 = .ok (.iaload, 1) := by decide +kernel
theorem dL_law_323 : decode cL_law 323 = .ok (.aload_n 0, 1) := by decide +kernel
theorem dL_law_324 : decode cL_law 324 = .ok (.iload_n 3, 1) := by decide +kernel
theorem dL_law_325 : decode cL_law 325 = .ok (.iconst 5, 1) := by decide +kernel
theorem dL_law_326 : decode cL_law 326 = .ok (.iadd, 1) := by decide +kernel
theorem dL_law_327 : decode cL_law 327 = .ok (.iaload, 1) := by decide +kernel
theorem dL_law_328 : decode cL_law 328 = .ok (.aload_n 0, 1) := by decide +kernel
theorem dL_law_329 : decode cL_law 329 = .ok (.iload_n 3, 1) := by decide +kernel
theorem dL_law_330 : decode cL_law 330 = .ok (.bipush 6, 2) := by decide +kernel
theorem dL_law_332 : decode cL_law 332 = .ok (.iadd, 1) := by decide +kernel
theorem dL_law_333 : decode cL_law 333 = .ok (.iaload, 1) := by decide +kernel
theorem dL_law_334 : decode cL_law 334 = .ok (.invokevirtual 22, 3) := by decide +kernel
theorem dL_law_337 : decode cL_law 337 = .ok (.if_icmp .eq 1650, 3) := by decide +kernel
theorem dL_law_340 : decode cL_law 340 = .ok (.iconst 0, 1) := by decide +kernel
theorem dL_law_341 : decode cL_law 341 = .ok (.ireturn, 1) := by decide +kernel
theorem dL_law_342 : decode cL_law 342 = .ok (.aload_n 1, 1) := by decide +kernel
theorem dL_law_343 : decode cL_law 343 = .ok (.invokevirtual 23, 3) := by decide +kernel
theorem dL_law_346 : decode cL_law 346 = .ok (.aload_n 2, 1) := by decide +kernel
theorem dL_law_347 : decode cL_law 347 = .ok (.invokevirtual 27, 3) := by decide +kernel
theorem dL_law_350 : decode cL_law 350 = .ok (.if_icmp .eq 1637, 3) := by decide +kernel
theorem dL_law_353 : decode cL_law 353 = .ok (.iconst 0, 1) := by decide +kernel
theorem dL_law_354 : decode cL_law 354 = .ok (.ireturn, 1) := by decide +kernel
theorem dL_law_355 : decode cL_law 355 = .ok (.aload_n 1, 1) := by decide +kernel
theorem dL_law_356 : decode cL_law 356 = .ok (.aload_n 0, 1) := by decide +kernel
theorem dL_law_357 : decode cL_law 357 = .ok (.iload_n 3, 1) := by decide +kernel
theorem dL_law_358 : decode cL_law 358 = .ok (.iconst 1, 1) := by decide +kernel
theorem dL_law_359 : decode cL_law 359 = .ok (.iadd, 1) := by decide +kernel
theorem dL_law_360 : decode cL_law 360 = .ok (.iaload, 1) := by decide +kernel
theorem dL_law_361 : decode cL_law 361 = .ok (.invokevirtual 28, 3) := by decide +kernel
theorem dL_law_364 : decode cL_law 364 = .ok (.aload_n 2, 1) := by decide +kernel
theorem dL_law_365 : decode cL_law 365 = .ok (.aload_n 0, 1) := by decide +kernel
theorem dL_law_366 : decode cL_law 366 = .ok (.iload_n 3, 1) := by decide +kernel
theorem dL_law_367 : decode cL_law 367 = .ok (.iconst 1, 1) := by decide +kernel
theorem dL_law_368 : decode cL_law 368 = .ok (.iadd, 1) := by decide +kernel
theorem dL_law_369 : decode cL_law 369 = .ok (.iaload, 1) := by decide +kernel
theorem dL_law_370 : decode cL_law 370 = .ok (.invokevirtual 31, 3) := by decide +kernel
theorem dL_law_373 : decode cL_law 373 = .ok (.if_icmp .eq 1614, 3) := by decide +kernel
theorem dL_law_376 : decode cL_law 376 = .ok (.iconst 0, 1) := by decide +kernel
theorem dL_law_377 : decode cL_law 377 = .ok (.ireturn, 1) := by decide +kernel
theorem dL_law_378 : decode cL_law 378 = .ok (.aload_n 1, 1) := by decide +kernel
theorem dL_law_379 : decode cL_law 379 = .ok (.aload_n 0, 1) := by decide +kernel
theorem dL_law_380 : decode cL_law 380 = .ok (.iload_n 3, 1) := by decide +kernel
theorem dL_law_381 : decode cL_law 381 = .ok (.iconst 1, 1) := by decide +kernel
theorem dL_law_382 : decode cL_law 382 = .ok (.iadd, 1) := by decide +kernel
theorem dL_law_383 : decode cL_law 383 = .ok (.iaload, 1) := by decide +kernel
theorem dL_law_384 : decode cL_law 384 = .ok (.aload_n 0, 1) := by decide +kernel
theorem dL_law_385 : decode cL_law 385 = .ok (.iload_n 3, 1) := by decide +kernel
theorem dL_law_386 : decode cL_law 386 = .ok (.iconst 2, 1) := by decide +kernel
theorem dL_law_387 : decode cL_law 387 = .ok (.iadd, 1) := by decide +kernel
theorem dL_law_388 : decode cL_law 388 = .ok (.iaload, 1) := by decide +kernel
theorem dL_law_389 : decode cL_law 389 = .ok (.aload_n 0, 1) := by decide +kernel
theorem dL_law_390 : decode cL_law 390 = .ok (.iload_n 3, 1) := by decide +kernel
theorem dL_law_391 : decode cL_law 391 = .ok (.iconst 3, 1) := by decide +kernel
theorem dL_law_392 : decode cL_law 392 = .ok (.iadd, 1) := by decide +kernel
theorem dL_law_393 : decode cL_law 393 = .ok (.iaload, 1) := by decide +kernel
theorem dL_law_394 : decode cL_law 394 = .ok (.aload_n 0, 1) := by decide +kernel
theorem dL_law_395 : decode cL_law 395 = .ok (.iload_n 3, 1) := by decide +kernel
theorem dL_law_396 : decode cL_law 396 = .ok (.iconst 4, 1) := by decide +kernel
theorem dL_law_397 : decode cL_law 397 = .ok (.iadd, 1) := by decide +kernel
theorem dL_law_398 : decode cL_law 398 = .ok (.iaload, 1) := by decide +kernel
theorem dL_law_399 : decode cL_law 399 = .ok (.invokevirtual 32, 3) := by decide +kernel
theorem dL_law_402 : decode cL_law 402 = .ok (.aload_n 2, 1) := by decide +kernel
theorem dL_law_403 : decode cL_law 403 = .ok (.aload_n 0, 1) := by decide +kernel
theorem dL_law_404 : decode cL_law 404 = .ok (.iload_n 3, 1) := by decide +kernel
theorem dL_law_405 : decode cL_law 405 = .ok (.iconst 1, 1) := by decide +kernel
theorem dL_law_406 : decode cL_law 406 = .ok (.iadd, 1) := by decide +kernel
theorem dL_law_407 : decode cL_law 407 = .ok (.iaload, 1) := by decide +kernel
theorem dL_law_408 : decode cL_law 408 = .ok (.aload_n 0, 1) := by decide +kernel
theorem dL_law_409 : decode cL_law 409 = .ok (.iload_n 3, 1) := by decide +kernel
theorem dL_law_410 : decode cL_law 410 = .ok (.iconst 2, 1) := by decide +kernel
theorem dL_law_411 : decode cL_law 411 = .ok (.iadd, 1) := by decide +kernel
theorem dL_law_412 : decode cL_law 412 = .ok (.iaload, 1) := by decide +kernel
theorem dL_law_413 : decode cL_law 413 = .ok (.aload_n 0, 1) := by decide +kernel
theorem dL_law_414 : decode cL_law 414 = .ok (.iload_n 3, 1) := by decide +kernel
theorem dL_law_415 : decode cL_law 415 = .ok (.iconst 3, 1) := by decide +kernel
theorem dL_law_416 : decode cL_law 416 = .ok (.iadd, 1) := by decide +kernel
theorem dL_law_417 : decode cL_law 417 = .ok (.iaload, 1) := by decide +kernel
theorem dL_law_418 : decode cL_law 418 = .ok (.aload_n 0, 1) := by decide +kernel
theorem dL_law_419 : decode cL_law 419 = .ok (.iload_n 3, 1) := by decide +kernel
theorem dL_law_420 : decode cL_law 420 = .ok (.iconst 4, 1) := by decide +kernel
theorem dL_law_421 : decode cL_law 421 = .ok (.iadd, 1) := by decide +kernel
theorem dL_law_422 : decode cL_law 422 = .ok (.iaload, 1) := by decide +kernel
theorem dL_law_423 : decode cL_law 423 = .ok (.invokevirtual 36, 3) := by decide +kernel
theorem dL_law_426 : decode cL_law 426 = .ok (.if_icmp .eq 1561, 3) := by decide +kernel
theorem dL_law_429 : decode cL_law 429 = .ok (.iconst 0, 1) := by decide +kernel
theorem dL_law_430 : decode cL_law 430 = .ok (.ireturn, 1) := by decide +kernel
theorem dL_law_431 : decode cL_law 431 = .ok (.aload_n 1, 1) := by decide +kernel
theorem dL_law_432 : decode cL_law 432 = .ok (.aload_n 0, 1) := by decide +kernel
theorem dL_law_433 : decode cL_law 433 = .ok (.iload_n 3, 1) := by decide +kernel
theorem dL_law_434 : decode cL_law 434 = .ok (.iconst 1, 1) := by decide +kernel
theorem dL_law_435 : decode cL_law 435 = .ok (.iadd, 1) := by decide +kernel
theorem dL_law_436 : decode cL_law 436 = .ok (.iaload, 1) := by decide +kernel
theorem dL_law_437 : decode cL_law 437 = .ok (.aload_n 0, 1) := by decide +kernel
theorem dL_law_438 : decode cL_law 438 = .ok (.iload_n 3, 1) := by decide +kernel
theorem dL_law_439 : decode cL_law 439 = .ok (.iconst 2, 1) := by decide +kernel
theorem dL_law_440 : decode cL_law 440 = .ok (.iadd, 1) := by decide +kernel
theorem dL_law_441 : decode cL_law 441 = .ok (.iaload, 1) := by decide +kernel
theorem dL_law_442 : decode cL_law 442 = .ok (.invokevirtual 37, 3) := by decide +kernel
theorem dL_law_445 : decode cL_law 445 = .ok (.aload_n 2, 1) := by decide +kernel
theorem dL_law_446 : decode cL_law 446 = .ok (.aload_n 0, 1) := by decide +kernel
theorem dL_law_447 : decode cL_law 447 = .ok (.iload_n 3, 1) := by decide +kernel
theorem dL_law_448 : decode cL_law 448 = .ok (.iconst 1, 1) := by decide +kernel
theorem dL_law_449 : decode cL_law 449 = .ok (.iadd, 1) := by decide +kernel
theorem dL_law_450 : decode cL_law 450 = .ok (.iaload, 1) := by decide +kernel
theorem dL_law_451 : decode cL_law 451 = .ok (.aload_n 0, 1) := by decide +kernel
theorem dL_law_452 : decode cL_law 452 = .ok (.iload_n 3, 1) := by decide +kernel
theorem dL_law_453 : decode cL_law 453 = .ok (.iconst 2, 1) := by decide +kernel
theorem dL_law_454 : decode cL_law 454 = .ok (.iadd, 1) := by decide +kernel
theorem dL_law_455 : decode cL_law 455 = .ok (.iaload, 1) := by decide +kernel
theorem dL_law_456 : decode cL_law 456 = .ok (.invokevirtual 41, 3) := by decide +kernel
theorem dL_law_459 : decode cL_law 459 = .ok (.if_icmp .eq 1528, 3) := by decide +kernel
theorem dL_law_462 : decode cL_law 462 = .ok (.iconst 0, 1) := by decide +kernel
theorem dL_law_463 : decode cL_law 463 = .ok (.ireturn, 1) := by decide +kernel
theorem dL_law_464 : decode cL_law 464 = .ok (.aload_n 1, 1) := by decide +kernel
theorem dL_law_465 : decode cL_law 465 = .ok (.aload_n 0, 1) := by decide +kernel
theorem dL_law_466 : decode cL_law 466 = .ok (.iload_n 3, 1) := by decide +kernel
theorem dL_law_467 : decode cL_law 467 = .ok (.iconst 1, 1) := by decide +kernel
theorem dL_law_468 : decode cL_law 468 = .ok (.iadd, 1) := by decide +kernel
theorem dL_law_469 : decode cL_law 469 = .ok (.iaload, 1) := by decide +kernel
theorem dL_law_470 : decode cL_law 470 = .ok (.aload_n 0, 1) := by decide +kernel
theorem dL_law_471 : decode cL_law 471 = .ok (.iload_n 3, 1) := by decide +kernel
theorem dL_law_472 : decode cL_law 472 = .ok (.iconst 2, 1) := by decide +kernel
theorem dL_law_473 : decode cL_law 473 = .ok (.iadd, 1) := by decide +kernel
theorem dL_law_474 : decode cL_law 474 = .ok (.iaload, 1) := by decide +kernel
theorem dL_law_475 : decode cL_law 475 = .ok (.invokevirtual 42, 3) := by decide +kernel
theorem dL_law_478 : decode cL_law 478 = .ok (.aload_n 2, 1) := by decide +kernel
theorem dL_law_479 : decode cL_law 479 = .ok (.aload_n 0, 1) := by decide +kernel
theorem dL_law_480 : decode cL_law 480 = .ok (.iload_n 3, 1) := by decide +kernel
theorem dL_law_481 : decode cL_law 481 = .ok (.iconst 1, 1) := by decide +kernel
theorem dL_law_482 : decode cL_law 482 = .ok (.iadd, 1) := by decide +kernel
theorem dL_law_483 : decode cL_law 483 = .ok (.iaload, 1) := by decide +kernel
theorem dL_law_484 : decode cL_law 484 = .ok (.aload_n 0, 1) := by decide +kernel
theorem dL_law_485 : decode cL_law 485 = .ok (.iload_n 3, 1) := by decide +kernel
theorem dL_law_486 : decode cL_law 486 = .ok (.iconst 2, 1) := by decide +kernel
theorem dL_law_487 : decode cL_law 487 = .ok (.iadd, 1) := by decide +kernel
theorem dL_law_488 : decode cL_law 488 = .ok (.iaload, 1) := by decide +kernel
theorem dL_law_489 : decode cL_law 489 = .ok (.invokevirtual 45, 3) := by decide +kernel
theorem dL_law_492 : decode cL_law 492 = .ok (.if_icmp .eq 1495, 3) := by decide +kernel
theorem dL_law_495 : decode cL_law 495 = .ok (.iconst 0, 1) := by decide +kernel
theorem dL_law_496 : decode cL_law 496 = .ok (.ireturn, 1) := by decide +kernel
theorem dL_law_497 : decode cL_law 497 = .ok (.aload_n 1, 1) := by decide +kernel
theorem dL_law_498 : decode cL_law 498 = .ok (.aload_n 0, 1) := by decide +kernel
theorem dL_law_499 : decode cL_law 499 = .ok (.iload_n 3, 1) := by decide +kernel
theorem dL_law_500 : decode cL_law 500 = .ok (.iconst 1, 1) := by decide +kernel
theorem dL_law_501 : decode cL_law 501 = .ok (.iadd, 1) := by decide +kernel
theorem dL_law_502 : decode cL_law 502 = .ok (.iaload, 1) := by decide +kernel
theorem dL_law_503 : decode cL_law 503 = .ok (.aload_n 0, 1) := by decide +kernel
theorem dL_law_504 : decode cL_law 504 = .ok (.iload_n 3, 1) := by decide +kernel
theorem dL_law_505 : decode cL_law 505 = .ok (.iconst 2, 1) := by decide +kernel
theorem dL_law_506 : decode cL_law 506 = .ok (.iadd, 1) := by decide +kernel
theorem dL_law_507 : decode cL_law 507 = .ok (.iaload, 1) := by decide +kernel
theorem dL_law_508 : decode cL_law 508 = .ok (.invokevirtual 46, 3) := by decide +kernel
theorem dL_law_511 : decode cL_law 511 = .ok (.aload_n 2, 1) := by decide +kernel
theorem dL_law_512 : decode cL_law 512 = .ok (.aload_n 0, 1) := by decide +kernel
theorem dL_law_513 : decode cL_law 513 = .ok (.iload_n 3, 1) := by decide +kernel
theorem dL_law_514 : decode cL_law 514 = .ok (.iconst 1, 1) := by decide +kernel
theorem dL_law_515 : decode cL_law 515 = .ok (.iadd, 1) := by decide +kernel
theorem dL_law_516 : decode cL_law 516 = .ok (.iaload, 1) := by decide +kernel
theorem dL_law_517 : decode cL_law 517 = .ok (.aload_n 0, 1) := by decide +kernel
theorem dL_law_518 : decode cL_law 518 = .ok (.iload_n 3, 1) := by decide +kernel
theorem dL_law_519 : decode cL_law 519 = .ok (.iconst 2, 1) := by decide +kernel
theorem dL_law_520 : decode cL_law 520 = .ok (.iadd, 1) := by decide +kernel
theorem dL_law_521 : decode cL_law 521 = .ok (.iaload, 1) := by decide +kernel
theorem dL_law_522 : decode cL_law 522 = .ok (.invokevirtual 49, 3) := by decide +kernel
theorem dL_law_525 : decode cL_law 525 = .ok (.if_icmp .eq 1462, 3) := by decide +kernel
theorem dL_law_528 : decode cL_law 528 = .ok (.iconst 0, 1) := by decide +kernel
theorem dL_law_529 : decode cL_law 529 = .ok (.ireturn, 1) := by decide +kernel
theorem dL_law_530 : decode cL_law 530 = .ok (.aload_n 1, 1) := by decide +kernel
theorem dL_law_531 : decode cL_law 531 = .ok (.aload_n 0, 1) := by decide +kernel
theorem dL_law_532 : decode cL_law 532 = .ok (.iload_n 3, 1) := by decide +kernel
theorem dL_law_533 : decode cL_law 533 = .ok (.iconst 1, 1) := by decide +kernel
theorem dL_law_534 : decode cL_law 534 = .ok (.iadd, 1) := by decide +kernel
theorem dL_law_535 : decode cL_law 535 = .ok (.iaload, 1) := by decide +kernel
theorem dL_law_536 : decode cL_law 536 = .ok (.aload_n 0, 1) := by decide +kernel
theorem dL_law_537 : decode cL_law 537 = .ok (.iload_n 3, 1) := by decide +kernel
theorem dL_law_538 : decode cL_law 538 = .ok (.iconst 2, 1) := by decide +kernel
theorem dL_law_539 : decode cL_law 539 = .ok (.iadd, 1) := by decide +kernel
theorem dL_law_540 : decode cL_law 540 = .ok (.iaload, 1) := by decide +kernel
theorem dL_law_541 : decode cL_law 541 = .ok (.aload_n 0, 1) := by decide +kernel
theorem dL_law_542 : decode cL_law 542 = .ok (.iload_n 3, 1) := by decide +kernel
theorem dL_law_543 : decode cL_law 543 = .ok (.iconst 3, 1) := by decide +kernel
theorem dL_law_544 : decode cL_law 544 = .ok (.iadd, 1) := by decide +kernel
theorem dL_law_545 : decode cL_law 545 = .ok (.iaload, 1) := by decide +kernel
theorem dL_law_546 : decode cL_law 546 = .ok (.invokevirtual 50, 3) := by decide +kernel
theorem dL_law_549 : decode cL_law 549 = .ok (.aload_n 2, 1) := by decide +kernel
theorem dL_law_550 : decode cL_law 550 = .ok (.aload_n 0, 1) := by decide +kernel
theorem dL_law_551 : decode cL_law 551 = .ok (.iload_n 3, 1) := by decide +kernel
theorem dL_law_552 : decode cL_law 552 = .ok (.iconst 1, 1) := by decide +kernel
theorem dL_law_553 : decode cL_law 553 = .ok (.iadd, 1) := by decide +kernel
theorem dL_law_554 : decode cL_law 554 = .ok (.iaload, 1) := by decide +kernel
theorem dL_law_555 : decode cL_law 555 = .ok (.aload_n 0, 1) := by decide +kernel
theorem dL_law_556 : decode cL_law 556 = .ok (.iload_n 3, 1) := by decide +kernel
theorem dL_law_557 : decode cL_law 557 = .ok (.iconst 2, 1) := by decide +kernel
theorem dL_law_558 : decode cL_law 558 = .ok (.iadd, 1) := by decide +kernel
theorem dL_law_559 : decode cL_law 559 = .ok (.iaload, 1) := by decide +kernel
theorem dL_law_560 : decode cL_law 560 = .ok (.aload_n 0, 1) := by decide +kernel
theorem dL_law_561 : decode cL_law 561 = .ok (.iload_n 3, 1) := by decide +kernel
theorem dL_law_562 : decode cL_law 562 = .ok (.iconst 3, 1) := by decide +kernel
theorem dL_law_563 : decode cL_law 563 = .ok (.iadd, 1) := by decide +kernel
theorem dL_law_564 : decode cL_law 564 = .ok (.iaload, 1) := by decide +kernel
theorem dL_law_565 : decode cL_law 565 = .ok (.invokevirtual 54, 3) := by decide +kernel
theorem dL_law_568 : decode cL_law 568 = .ok (.if_icmp .eq 1419, 3) := by decide +kernel
theorem dL_law_571 : decode cL_law 571 = .ok (.iconst 0, 1) := by decide +kernel
theorem dL_law_572 : decode cL_law 572 = .ok (.ireturn, 1) := by decide +kernel
theorem dL_law_573 : decode cL_law 573 = .ok (.aload_n 1, 1) := by decide +kernel
theorem dL_law_574 : decode cL_law 574 = .ok (.aload_n 0, 1) := by decide +kernel
theorem dL_law_575 : decode cL_law 575 = .ok (.iload_n 3, 1) := by decide +kernel
theorem dL_law_576 : decode cL_law 576 = .ok (.iconst 1, 1) := by decide +kernel
theorem dL_law_577 : decode cL_law 577 = .ok (.iadd, 1) := by decide +kernel
theorem dL_law_578 : decode cL_law 578 = .ok (.iaload, 1) := by decide +kernel
theorem dL_law_579 : decode cL_law 579 = .ok (.aload_n 0, 1) := by decide +kernel
theorem dL_law_580 : decode cL_law 580 = .ok (.iload_n 3, 1) := by decide +kernel
theorem dL_law_581 : decode cL_law 581 = .ok (.iconst 2, 1) := by decide +kernel
theorem dL_law_582 : decode cL_law 582 = .ok (.iadd, 1) := by decide +kernel
theorem dL_law_583 : decode cL_law 583 = .ok (.iaload, 1) := by decide +kernel
theorem dL_law_584 : decode cL_law 584 = .ok (.invokevirtual 55, 3) := by decide +kernel
theorem dL_law_587 : decode cL_law 587 = .ok (.aload_n 2, 1) := by decide +kernel
theorem dL_law_588 : decode cL_law 588 = .ok (.aload_n 0, 1) := by decide +kernel
theorem dL_law_589 : decode cL_law 589 = .ok (.iload_n 3, 1) := by decide +kernel
theorem dL_law_590 : decode cL_law 590 = .ok (.iconst 1, 1) := by decide +kernel
theorem dL_law_591 : decode cL_law 591 = .ok (.iadd, 1) := by decide +kernel
theorem dL_law_592 : decode cL_law 592 = .ok (.iaload, 1) := by decide +kernel
theorem dL_law_593 : decode cL_law 593 = .ok (.aload_n 0, 1) := by decide +kernel
theorem dL_law_594 : decode cL_law 594 = .ok (.iload_n 3, 1) := by decide +kernel
theorem dL_law_595 : decode cL_law 595 = .ok (.iconst 2, 1) := by decide +kernel
theorem dL_law_596 : decode cL_law 596 = .ok (.iadd, 1) := by decide +kernel
theorem dL_law_597 : decode cL_law 597 = .ok (.iaload, 1) := by decide +kernel
theorem dL_law_598 : decode cL_law 598 = .ok (.invokevirtual 58, 3) := by decide +kernel
theorem dL_law_601 : decode cL_law 601 = .ok (.if_icmp .eq 1386, 3) := by decide +kernel
theorem dL_law_604 : decode cL_law 604 = .ok (.iconst 0, 1) := by decide +kernel
theorem dL_law_605 : decode cL_law 605 = .ok (.ireturn, 1) := by decide +kernel
theorem dL_law_606 : decode cL_law 606 = .ok (.aload_n 1, 1) := by decide +kernel
theorem dL_law_607 : decode cL_law 607 = .ok (.aload_n 0, 1) := by decide +kernel
theorem dL_law_608 : decode cL_law 608 = .ok (.iload_n 3, 1) := by decide +kernel
theorem dL_law_609 : decode cL_law 609 = .ok (.iconst 1, 1) := by decide +kernel
theorem dL_law_610 : decode cL_law 610 = .ok (.iadd, 1) := by decide +kernel
theorem dL_law_611 : decode cL_law 611 = .ok (.iaload, 1) := by decide +kernel
theorem dL_law_612 : decode cL_law 612 = .ok (.aload_n 0, 1) := by decide +kernel
theorem dL_law_613 : decode cL_law 613 = .ok (.iload_n 3, 1) := by decide +kernel
theorem dL_law_614 : decode cL_law 614 = .ok (.iconst 2, 1) := by decide +kernel
theorem dL_law_615 : decode cL_law 615 = .ok (.iadd, 1) := by decide +kernel
theorem dL_law_616 : decode cL_law 616 = .ok (.iaload, 1) := by decide +kernel
theorem dL_law_617 : decode cL_law 617 = .ok (.invokevirtual 59, 3) := by decide +kernel
theorem dL_law_620 : decode cL_law 620 = .ok (.aload_n 2, 1) := by decide +kernel
theorem dL_law_621 : decode cL_law 621 = .ok (.aload_n 0, 1) := by decide +kernel
theorem dL_law_622 : decode cL_law 622 = .ok (.iload_n 3, 1) := by decide +kernel
theorem dL_law_623 : decode cL_law 623 = .ok (.iconst 1, 1) := by decide +kernel
theorem dL_law_624 : decode cL_law 624 = .ok (.iadd, 1) := by decide +kernel
theorem dL_law_625 : decode cL_law 625 = .ok (.iaload, 1) := by decide +kernel
theorem dL_law_626 : decode cL_law 626 = .ok (.aload_n 0, 1) := by decide +kernel
theorem dL_law_627 : decode cL_law 627 = .ok (.iload_n 3, 1) := by decide +kernel
theorem dL_law_628 : decode cL_law 628 = .ok (.iconst 2, 1) := by decide +kernel
theorem dL_law_629 : decode cL_law 629 = .ok (.iadd, 1) := by decide +kernel
theorem dL_law_630 : decode cL_law 630 = .ok (.iaload, 1) := by decide +kernel
theorem dL_law_631 : decode cL_law 631 = .ok (.invokevirtual 62, 3) := by decide +kernel
