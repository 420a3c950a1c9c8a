theorem dX6_reading_49 : decode cX6_reading 49 = .ok (.iload_n 1, 1) := by decide +kernel
theorem dX6_reading_50 : decode cX6_reading 50 = .ok (.iload_n 2, 1) := by decide +kernel
theorem dX6_reading_51 : decode cX6_reading 51 = .ok (.iload_n 3, 1) := by decide +kernel
theorem dX6_reading_52 : decode cX6_reading 52 = .ok (.invokevirtual 205, 3) := by decide +kernel
theorem dX6_reading_55 : decode cX6_reading 55 = .ok (.ireturn, 1) := by decide +kernel
theorem dX6_back_0 : decode cX6_back 0 = .ok (.iload_n 1, 1) := by decide +kernel
theorem dX6_back_1 : decode cX6_back 1 = .ok (.ifCond .lt 14, 3) := by decide +kernel
theorem dX6_back_4 : decode cX6_back 4 = .ok (.iload_n 1, 1) := by decide +kernel
theorem dX6_back_5 : decode cX6_back 5 = .ok (.aload_n 0, 1) := by decide +kernel
theorem dX6_back_6 : decode cX6_back 6 = .ok (.getfield 31, 3) := by decide +kernel
theorem dX6_back_9 : decode cX6_back 9 = .ok (.getfield 87, 3) := by decide +kernel
theorem dX6_back_12 : decode cX6_back 12 = .ok (.if_icmp .le 6, 3) := by decide +kernel
theorem dX6_back_15 : decode cX6_back 15 = .ok (.bipush (-2), 2) := by decide +kernel
theorem dX6_back_17 : decode cX6_back 17 = .ok (.ireturn, 1) := by decide +kernel
theorem dX6_back_18 : decode cX6_back 18 = .ok (.aload_n 0, 1) := by decide +kernel
theorem dX6_back_19 : decode cX6_back 19 = .ok (.getfield 31, 3) := by decide +kernel
theorem dX6_back_22 : decode cX6_back 22 = .ok (.dup, 1) := by decide +kernel
theorem dX6_back_23 : decode cX6_back 23 = .ok (.getfield 87, 3) := by decide +kernel
theorem dX6_back_26 : decode cX6_back 26 = .ok (.iload_n 1, 1) := by decide +kernel
theorem dX6_back_27 : decode cX6_back 27 = .ok (.isub, 1) := by decide +kernel
theorem dX6_back_28 : decode cX6_back 28 = .ok (.putfield 87, 3) := by decide +kernel
theorem dX6_back_31 : decode cX6_back 31 = .ok (.aload_n 0, 1) := by decide +kernel
theorem dX6_back_32 : decode cX6_back 32 = .ok (.getfield 31, 3) := by decide +kernel
theorem dX6_back_35 : decode cX6_back 35 = .ok (.getfield 87, 3) := by decide +kernel
theorem dX6_back_38 : decode cX6_back 38 = .ok (.ireturn, 1) := by decide +kernel
theorem dX6_began_0 : decode cX6_began 0 = .ok (.aload_n 0, 1) := by decide +kernel
theorem dX6_began_1 : decode cX6_began 1 = .ok (.iload_n 1, 1) := by decide +kernel
theorem dX6_began_2 : decode cX6_began 2 = .ok (.invokevirtual 96, 3) := by decide +kernel
theorem dX6_began_5 : decode cX6_began 5 = .ok (.ifCond .eq 5, 3) := by decide +kernel
theorem dX6_began_8 : decode cX6_began 8 = .ok (.iconst (-1), 1) := by decide +kernel
theorem dX6_began_9 : decode cX6_began 9 = .ok (.ireturn, 1) := by decide +kernel
theorem dX6_began_10 : decode cX6_began 10 = .ok (.iload_n 2, 1) := by decide +kernel
theorem dX6_began_11 : decode cX6_began 11 = .ok (.ifCond .lt 8, 3) := by decide +kernel
theorem dX6_began_14 : decode cX6_began 14 = .ok (.iload_n 2, 1) := by decide +kernel
theorem dX6_began_15 : decode cX6_began 15 = .ok (.iconst 1, 1) := by decide +kernel
theorem dX6_began_16 : decode cX6_began 16 = .ok (.if_icmp .le 6, 3) := by decide +kernel
theorem dX6_began_19 : decode cX6_began 19 = .ok (.bipush (-2), 2) := by decide +kernel
theorem dX6_began_21 : decode cX6_began 21 = .ok (.ireturn, 1) := by decide +kernel
theorem dX6_began_22 : decode cX6_began 22 = .ok (.iconst 0, 1) := by decide +kernel
theorem dX6_began_23 : decode cX6_began 23 = .ok (.istore_n 3, 1) := by decide +kernel
theorem dX6_began_24 : decode cX6_began 24 = .ok (.bipush (-9), 2) := by decide +kernel
theorem dX6_began_26 : decode cX6_began 26 = .ok (.istore 4, 2) := by decide +kernel
theorem dX6_began_28 : decode cX6_began 28 = .ok (.aload_n 0, 1) := by decide +kernel
theorem dX6_began_29 : decode cX6_began 29 = .ok (.getfield 25, 3) := by decide +kernel
theorem dX6_began_32 : decode cX6_began 32 = .ok (.aload_n 0, 1) := by decide +kernel
theorem dX6_began_33 : decode cX6_began 33 = .ok (.getfield 21, 3) := by decide +kernel
theorem dX6_began_36 : decode cX6_began 36 = .ok (.invokevirtual 192, 3) := by decide +kernel
theorem dX6_began_39 : decode cX6_began 39 = .ok (.iconst 0, 1) := by decide +kernel
theorem dX6_began_40 : decode cX6_began 40 = .ok (.istore 5, 2) := by decide +kernel
theorem dX6_began_42 : decode cX6_began 42 = .ok (.iload 5, 2) := by decide +kernel
theorem dX6_began_44 : decode cX6_began 44 = .ok (.bipush 60, 2) := by decide +kernel
theorem dX6_began_46 : decode cX6_began 46 = .ok (.if_icmp .ge 43, 3) := by decide +kernel
theorem dX6_began_49 : decode cX6_began 49 = .ok (.aload_n 0, 1) := by decide +kernel
theorem dX6_began_50 : decode cX6_began 50 = .ok (.getfield 25, 3) := by decide +kernel
theorem dX6_began_53 : decode cX6_began 53 = .ok (.getfield 102, 3) := by decide +kernel
theorem dX6_began_56 : decode cX6_began 56 = .ok (.iload_n 1, 1) := by decide +kernel
theorem dX6_began_57 : decode cX6_began 57 = .ok (.iload 5, 2) := by decide +kernel
theorem dX6_began_59 : decode cX6_began 59 = .ok (.iastore, 1) := by decide +kernel
theorem dX6_began_60 : decode cX6_began 60 = .ok (.aload_n 0, 1) := by decide +kernel
theorem dX6_began_61 : decode cX6_began 61 = .ok (.invokevirtual 208, 3) := by decide +kernel
theorem dX6_began_64 : decode cX6_began 64 = .ok (.ifCond .eq 19, 3) := by decide +kernel
theorem dX6_began_67 : decode cX6_began 67 = .ok (.iload_n 3, 1) := by decide +kernel
theorem dX6_began_68 : decode cX6_began 68 = .ok (.ifCond .ne 8, 3) := by decide +kernel
theorem dX6_began_71 : decode cX6_began 71 = .ok (.iload 5, 2) := by decide +kernel
theorem dX6_began_73 : decode cX6_began 73 = .ok (.goto 5, 3) := by decide +kernel
theorem dX6_began_76 : decode cX6_began 76 = .ok (.iload 4, 2) := by decide +kernel
theorem dX6_began_78 : decode cX6_began 78 = .ok (.istore 4, 2) := by decide +kernel
theorem dX6_began_80 : decode cX6_began 80 = .ok (.iinc 3 1, 3) := by decide +kernel
theorem dX6_began_83 : decode cX6_began 83 = .ok (.iinc 5 1, 3) := by decide +kernel
theorem dX6_began_86 : decode cX6_began 86 = .ok (.goto (-44), 3) := by decide +kernel
theorem dX6_began_89 : decode cX6_began 89 = .ok (.iload_n 2, 1) := by decide +kernel
theorem dX6_began_90 : decode cX6_began 90 = .ok (.ifCond .ne 7, 3) := by decide +kernel
theorem dX6_began_93 : decode cX6_began 93 = .ok (.iload_n 3, 1) := by decide +kernel
theorem dX6_began_94 : decode cX6_began 94 = .ok (.goto 5, 3) := by decide +kernel
theorem dX6_began_97 : decode cX6_began 97 = .ok (.iload 4, 2) := by decide +kernel
theorem dX6_began_99 : decode cX6_began 99 = .ok (.ireturn, 1) := by decide +kernel
theorem dX6_kinds_0 : decode cX6_kinds 0 = .ok (.aload_n 0, 1) := by decide +kernel
theorem dX6_kinds_1 : decode cX6_kinds 1 = .ok (.iload_n 1, 1) := by decide +kernel
theorem dX6_kinds_2 : decode cX6_kinds 2 = .ok (.invokevirtual 96, 3) := by decide +kernel
theorem dX6_kinds_5 : decode cX6_kinds 5 = .ok (.ifCond .eq 5, 3) := by decide +kernel
theorem dX6_kinds_8 : decode cX6_kinds 8 = .ok (.iconst (-1), 1) := by decide +kernel
theorem dX6_kinds_9 : decode cX6_kinds 9 = .ok (.ireturn, 1) := by decide +kernel
theorem dX6_kinds_10 : decode cX6_kinds 10 = .ok (.iconst 0, 1) := by decide +kernel
theorem dX6_kinds_11 : decode cX6_kinds 11 = .ok (.istore_n 2, 1) := by decide +kernel
theorem dX6_kinds_12 : decode cX6_kinds 12 = .ok (.aload_n 0, 1) := by decide +kernel
theorem dX6_kinds_13 : decode cX6_kinds 13 = .ok (.getfield 25, 3) := by decide +kernel
theorem dX6_kinds_16 : decode cX6_kinds 16 = .ok (.aload_n 0, 1) := by decide +kernel
theorem dX6_kinds_17 : decode cX6_kinds 17 = .ok (.getfield 21, 3) := by decide +kernel
theorem dX6_kinds_20 : decode cX6_kinds 20 = .ok (.invokevirtual 192, 3) := by decide +kernel
theorem dX6_kinds_23 : decode cX6_kinds 23 = .ok (.iconst 0, 1) := by decide +kernel
theorem dX6_kinds_24 : decode cX6_kinds 24 = .ok (.istore_n 3, 1) := by decide +kernel
theorem dX6_kinds_25 : decode cX6_kinds 25 = .ok (.iload_n 3, 1) := by decide +kernel
theorem dX6_kinds_26 : decode cX6_kinds 26 = .ok (.iconst 3, 1) := by decide +kernel
theorem dX6_kinds_27 : decode cX6_kinds 27 = .ok (.if_icmp .ge 32, 3) := by decide +kernel
theorem dX6_kinds_30 : decode cX6_kinds 30 = .ok (.aload_n 0, 1) := by decide +kernel
theorem dX6_kinds_31 : decode cX6_kinds 31 = .ok (.getfield 25, 3) := by decide +kernel
theorem dX6_kinds_34 : decode cX6_kinds 34 = .ok (.getfield 99, 3) := by decide +kernel
theorem dX6_kinds_37 : decode cX6_kinds 37 = .ok (.iload_n 1, 1) := by decide +kernel
theorem dX6_kinds_38 : decode cX6_kinds 38 = .ok (.iload_n 3, 1) := by decide +kernel
theorem dX6_kinds_39 : decode cX6_kinds 39 = .ok (.iastore, 1) := by decide +kernel
theorem dX6_kinds_40 : decode cX6_kinds 40 = .ok (.aload_n 0, 1) := by decide +kernel
theorem dX6_kinds_41 : decode cX6_kinds 41 = .ok (.invokevirtual 208, 3) := by decide +kernel
theorem dX6_kinds_44 : decode cX6_kinds 44 = .ok (.ifCond .eq 9, 3) := by decide +kernel
theorem dX6_kinds_47 : decode cX6_kinds 47 = .ok (.iload_n 2, 1) := by decide +kernel
theorem dX6_kinds_48 : decode cX6_kinds 48 = .ok (.iconst 1, 1) := by decide +kernel
theorem dX6_kinds_49 : decode cX6_kinds 49 = .ok (.iload_n 3, 1) := by decide +kernel
theorem dX6_kinds_50 : decode cX6_kinds 50 = .ok (.ishl, 1) := by decide +kernel
theorem dX6_kinds_51 : decode cX6_kinds 51 = .ok (.ior, 1) := by decide +kernel
theorem dX6_kinds_52 : decode cX6_kinds 52 = .ok (.istore_n 2, 1) := by decide +kernel
theorem dX6_kinds_53 : decode cX6_kinds 53 = .ok (.iinc 3 1, 3) := by decide +kernel
theorem dX6_kinds_56 : decode cX6_kinds 56 = .ok (.goto (-31), 3) := by decide +kernel
theorem dX6_kinds_59 : decode cX6_kinds 59 = .ok (.iload_n 2, 1) := by decide +kernel
theorem dX6_kinds_60 : decode cX6_kinds 60 = .ok (.ireturn, 1) := by decide +kernel
theorem dX6_fadings_0 : decode cX6_fadings 0 = .ok (.aload_n 0, 1) := by decide +kernel
theorem dX6_fadings_1 : decode cX6_fadings 1 = .ok (.iload_n 1, 1) := by decide +kernel
theorem dX6_fadings_2 : decode cX6_fadings 2 = .ok (.invokevirtual 96, 3) := by decide +kernel
theorem dX6_fadings_5 : decode cX6_fadings 5 = .ok (.ifCond .eq 5, 3) := by decide +kernel
theorem dX6_fadings_8 : decode cX6_fadings 8 = .ok (.iconst (-1), 1) := by decide +kernel
theorem dX6_fadings_9 : decode cX6_fadings 9 = .ok (.ireturn, 1) := by decide +kernel
theorem dX6_fadings_10 : decode cX6_fadings 10 = .ok (.iconst 0, 1) := by decide +kernel
theorem dX6_fadings_11 : decode cX6_fadings 11 = .ok (.istore_n 2, 1) := by decide +kernel
theorem dX6_fadings_12 : decode cX6_fadings 12 = .ok (.aload_n 0, 1) := by decide +kernel
theorem dX6_fadings_13 : decode cX6_fadings 13 = .ok (.getfield 25, 3) := by decide +kernel
theorem dX6_fadings_16 : decode cX6_fadings 16 = .ok (.aload_n 0, 1) := by decide +kernel
theorem dX6_fadings_17 : decode cX6_fadings 17 = .ok (.getfield 21, 3) := by decide +kernel
theorem dX6_fadings_20 : decode cX6_fadings 20 = .ok (.invokevirtual 192, 3) := by decide +kernel
theorem dX6_fadings_23 : decode cX6_fadings 23 = .ok (.iconst 0, 1) := by decide +kernel
theorem dX6_fadings_24 : decode cX6_fadings 24 = .ok (.istore_n 3, 1) := by decide +kernel
theorem dX6_fadings_25 : decode cX6_fadings 25 = .ok (.iload_n 3, 1) := by decide +kernel
theorem dX6_fadings_26 : decode cX6_fadings 26 = .ok (.bipush 10, 2) := by decide +kernel
theorem dX6_fadings_28 : decode cX6_fadings 28 = .ok (.if_icmp .ge 32, 3) := by decide +kernel
theorem dX6_fadings_31 : decode cX6_fadings 31 = .ok (.aload_n 0, 1) := by decide +kernel
theorem dX6_fadings_32 : decode cX6_fadings 32 = .ok (.getfield 25, 3) := by decide +kernel
theorem dX6_fadings_35 : decode cX6_fadings 35 = .ok (.getfield 105, 3) := by decide +kernel
theorem dX6_fadings_38 : decode cX6_fadings 38 = .ok (.iload_n 1, 1) := by decide +kernel
theorem dX6_fadings_39 : decode cX6_fadings 39 = .ok (.iload_n 3, 1) := by decide +kernel
theorem dX6_fadings_40 : decode cX6_fadings 40 = .ok (.iastore, 1) := by decide +kernel
theorem dX6_fadings_41 : decode cX6_fadings 41 = .ok (.aload_n 0, 1) := by decide +kernel
theorem dX6_fadings_42 : decode cX6_fadings 42 = .ok (.invokevirtual 208, 3) := by decide +kernel
theorem dX6_fadings_45 : decode cX6_fadings 45 = .ok (.ifCond .eq 9, 3) := by decide +kernel
theorem dX6_fadings_48 : decode cX6_fadings 48 = .ok (.iload_n 2, 1) := by decide +kernel
theorem dX6_fadings_49 : decode cX6_fadings 49 = .ok (.iconst 1, 1) := by decide +kernel
theorem dX6_fadings_50 : decode cX6_fadings 50 = .ok (.iload_n 3, 1) := by decide +kernel
theorem dX6_fadings_51 : decode cX6_fadings 51 = .ok (.ishl, 1) := by decide +kernel
theorem dX6_fadings_52 : decode cX6_fadings 52 = .ok (.ior, 1) := by decide +kernel
theorem dX6_fadings_53 : decode cX6_fadings 53 = .ok (.istore_n 2, 1) := by decide +kernel
theorem dX6_fadings_54 : decode cX6_fadings 54 = .ok (.iinc 3 1, 3) := by decide +kernel
theorem dX6_fadings_57 : decode cX6_fadings 57 = .ok (.goto (-32), 3) := by decide +kernel
theorem dX6_fadings_60 : decode cX6_fadings 60 = .ok (.iload_n 2, 1) := by decide +kernel
theorem dX6_fadings_61 : decode cX6_fadings 61 = .ok (.ireturn, 1) := by decide +kernel
theorem dX6_guessIsSo_0 : decode cX6_guessIsSo 0 = .ok (.aload_n 0, 1) := by decide +kernel
theorem dX6_guessIsSo_1 : decode cX6_guessIsSo 1 = .ok (.getfield 25, 3) := by decide +kernel
theorem dX6_guessIsSo_4 : decode cX6_guessIsSo 4 = .ok (.invokevirtual 211, 3) := by decide +kernel
theorem dX6_guessIsSo_7 : decode cX6_guessIsSo 7 = .ok (.aload_n 0, 1) := by decide +kernel
theorem dX6_guessIsSo_8 : decode cX6_guessIsSo 8 = .ok (.getfield 31, 3) := by decide +kernel
theorem dX6_guessIsSo_11 : decode cX6_guessIsSo 11 = .ok (.aload_n 0, 1) := by decide +kernel
theorem dX6_guessIsSo_12 : decode cX6_guessIsSo 12 = .ok (.getfield 25, 3) := by decide +kernel
theorem dX6_guessIsSo_15 : decode cX6_guessIsSo 15 = .ok (.invokevirtual 214, 3) := by decide +kernel
theorem dX6_guessIsSo_18 : decode cX6_guessIsSo 18 = .ok (.ireturn, 1) := by decide +kernel
theorem dX6_odds_0 : decode cX6_odds 0 = .ok (.aload_n 0, 1) := by decide +kernel
theorem dX6_odds_1 : decode cX6_odds 1 = .ok (.iload_n 1, 1) := by decide +kernel
theorem dX6_odds_2 : decode cX6_odds 2 = .ok (.invokevirtual 96, 3) := by decide +kernel
theorem dX6_odds_5 : decode cX6_odds 5 = .ok (.ifCond .ne 19, 3) := by decide +kernel
theorem dX6_odds_8 : decode cX6_odds 8 = .ok (.iload_n 2, 1) := by decide +kernel
theorem dX6_odds_9 : decode cX6_odds 9 = .ok (.invokestatic 112, 3) := by decide +kernel
theorem dX6_odds_12 : decode cX6_odds 12 = .ok (.ifCond .ne 12, 3) := by decide +kernel
theorem dX6_odds_15 : decode cX6_odds 15 = .ok (.iload_n 3, 1) := by decide +kernel
theorem dX6_odds_16 : decode cX6_odds 16 = .ok (.ifCond .lt 8, 3) := by decide +kernel
theorem dX6_odds_19 : decode cX6_odds 19 = .ok (.iload_n 3, 1) := by decide +kernel
theorem dX6_odds_20 : decode cX6_odds 20 = .ok (.iconst 1, 1) := by decide +kernel
theorem dX6_odds_21 : decode cX6_odds 21 = .ok (.if_icmp .le 7, 3) := by decide +kernel
theorem dX6_odds_24 : decode cX6_odds 24 = .ok (.ldc2_w 218, 3) := by decide +kernel
theorem dX6_odds_27 : decode cX6_odds 27 = .ok (.lreturn, 1) := by decide +kernel
theorem dX6_odds_28 : decode cX6_odds 28 = .ok (.aload_n 0, 1) := by decide +kernel
theorem dX6_odds_29 : decode cX6_odds 29 = .ok (.iload_n 1, 1) := by decide +kernel
theorem dX6_odds_30 : decode cX6_odds 30 = .ok (.iload_n 2, 1) := by decide +kernel
theorem dX6_odds_31 : decode cX6_odds 31 = .ok (.invokevirtual 220, 3) := by decide +kernel
theorem dX6_odds_34 : decode cX6_odds 34 = .ok (.istore 4, 2) := by decide +kernel
theorem dX6_odds_36 : decode cX6_odds 36 = .ok (.iconst 1, 1) := by decide +kernel
theorem dX6_odds_37 : decode cX6_odds 37 = .ok (.aload_n 0, 1) := by decide +kernel
theorem dX6_odds_38 : decode cX6_odds 38 = .ok (.getfield 21, 3) := by decide +kernel
theorem dX6_odds_41 : decode cX6_odds 41 = .ok (.getfield 154, 3) := by decide +kernel
theorem dX6_odds_44 : decode cX6_odds 44 = .ok (.ishl, 1) := by decide +kernel
theorem dX6_odds_45 : decode cX6_odds 45 = .ok (.istore 5, 2) := by decide +kernel
theorem dX6_odds_47 : decode cX6_odds 47 = .ok (.iload 5, 2) := by decide +kernel
theorem dX6_odds_49 : decode cX6_odds 49 = .ok (.iconst 1, 1) := by decide +kernel
theorem dX6_odds_50 : decode cX6_odds 50 = .ok (.if_icmp .le 25, 3) := by decide +kernel
theorem dX6_odds_53 : decode cX6_odds 53 = .ok (.iload 4, 2) := by decide +kernel
theorem dX6_odds_55 : decode cX6_odds 55 = .ok (.iconst 2, 1) := by decide +kernel
theorem dX6_odds_56 : decode cX6_odds 56 = .ok (.irem, 1) := by decide +kernel
theorem dX6_odds_57 : decode cX6_odds 57 = .ok (.ifCond .ne 18, 3) := by decide +kernel
theorem dX6_odds_60 : decode cX6_odds 60 = .ok (.iload 4, 2) := by decide +kernel
theorem dX6_odds_62 : decode cX6_odds 62 = .ok (.iconst 2, 1) := by decide +kernel
theorem dX6_odds_63 : decode cX6_odds 63 = .ok (.idiv, 1) := by decide +kernel
theorem dX6_odds_64 : decode cX6_odds 64 = .ok (.istore 4, 2) := by decide +kernel
theorem dX6_odds_66 : decode cX6_odds 66 = .ok (.iload 5, 2) := by decide +kernel
theorem dX6_odds_68 : decode cX6_odds 68 = .ok (.iconst 2, 1) := by decide +kernel
theorem dX6_odds_69 : decode cX6_odds 69 = .ok (.idiv, 1) := by decide +kernel
theorem dX6_odds_70 : decode cX6_odds 70 = .ok (.istore 5, 2) := by decide +kernel
theorem dX6_odds_72 : decode cX6_odds 72 = .ok (.goto (-25), 3) := by decide +kernel
theorem dX6_odds_75 : decode cX6_odds 75 = .ok (.iload_n 3, 1) := by decide +kernel
theorem dX6_odds_76 : decode cX6_odds 76 = .ok (.ifCond .ne 9, 3) := by decide +kernel
theorem dX6_odds_79 : decode cX6_odds 79 = .ok (.iload 4, 2) := by decide +kernel
theorem dX6_odds_81 : decode cX6_odds 81 = .ok (.i2l, 1) := by decide +kernel
theorem dX6_odds_82 : decode cX6_odds 82 = .ok (.goto 6, 3) := by decide +kernel
theorem dX6_odds_85 : decode cX6_odds 85 = .ok (.iload 5, 2) := by decide +kernel
theorem dX6_odds_87 : decode cX6_odds 87 = .ok (.i2l, 1) := by decide +kernel
theorem dX6_odds_88 : decode cX6_odds 88 = .ok (.lreturn, 1) := by decide +kernel
theorem dX6_waysToBeDue_0 : decode cX6_waysToBeDue 0 = .ok (.iconst 0, 1) := by decide +kernel
theorem dX6_waysToBeDue_1 : decode cX6_waysToBeDue 1 = .ok (.istore_n 3, 1) := by decide +kernel
theorem dX6_waysToBeDue_2 : decode cX6_waysToBeDue 2 = .ok (.iconst 1, 1) := by decide +kernel
theorem dX6_waysToBeDue_3 : decode cX6_waysToBeDue 3 = .ok (.aload_n 0, 1) := by decide +kernel
theorem dX6_waysToBeDue_4 : decode cX6_waysToBeDue 4 = .ok (.getfield 21, 3) := by decide +kernel
theorem dX6_waysToBeDue_7 : decode cX6_waysToBeDue 7 = .ok (.getfield 154, 3) := by decide +kernel
theorem dX6_waysToBeDue_10 : decode cX6_waysToBeDue 10 = .ok (.ishl, 1) := by decide +kernel
theorem dX6_waysToBeDue_11 : decode cX6_waysToBeDue 11 = .ok (.istore 4, 2) := by decide +kernel
theorem dX6_waysToBeDue_13 : decode cX6_waysToBeDue 13 = .ok (.aload_n 0, 1) := by decide +kernel
theorem dX6_waysToBeDue_14 : decode cX6_waysToBeDue 14 = .ok (.getfield 25, 3) := by decide +kernel
theorem dX6_waysToBeDue_17 : decode cX6_waysToBeDue 17 = .ok (.aload_n 0, 1) := by decide +kernel
theorem dX6_waysToBeDue_18 : decode cX6_waysToBeDue 18 = .ok (.getfield 21, 3) := by decide +kernel
theorem dX6_waysToBeDue_21 : decode cX6_waysToBeDue 21 = .ok (.invokevirtual 192, 3) := by decide +kernel
theorem dX6_waysToBeDue_24 : decode cX6_waysToBeDue 24 = .ok (.iconst 0, 1) := by decide +kernel
theorem dX6_waysToBeDue_25 : decode cX6_waysToBeDue 25 = .ok (.istore 5, 2) := by decide +kernel
theorem dX6_waysToBeDue_27 : decode cX6_waysToBeDue 27 = .ok (.iload 5, 2) := by decide +kernel
theorem dX6_waysToBeDue_29 : decode cX6_waysToBeDue 29 = .ok (.iload 4, 2) := by decide +kernel
theorem dX6_waysToBeDue_31 : decode cX6_waysToBeDue 31 = .ok (.if_icmp .ge 40, 3) := by decide +kernel
theorem dX6_waysToBeDue_34 : decode cX6_waysToBeDue 34 = .ok (.aload_n 0, 1) := by decide +kernel
theorem dX6_waysToBeDue_35 : decode cX6_waysToBeDue 35 = .ok (.getfield 25, 3) := by decide +kernel
theorem dX6_waysToBeDue_38 : decode cX6_waysToBeDue 38 = .ok (.iload 5, 2) := by decide +kernel
theorem dX6_waysToBeDue_40 : decode cX6_waysToBeDue 40 = .ok (.invokevirtual 223, 3) := by decide +kernel
theorem dX6_waysToBeDue_43 : decode cX6_waysToBeDue 43 = .ok (.aload_n 0, 1) := by decide +kernel
theorem dX6_waysToBeDue_44 : decode cX6_waysToBeDue 44 = .ok (.getfield 25, 3) := by decide +kernel
theorem dX6_waysToBeDue_47 : decode cX6_waysToBeDue 47 = .ok (.iload_n 1, 1) := by decide +kernel
theorem dX6_waysToBeDue_48 : decode cX6_waysToBeDue 48 = .ok (.aload_n 0, 1) := by decide +kernel
theorem dX6_waysToBeDue_49 : decode cX6_waysToBeDue 49 = .ok (.getfield 25, 3) := by decide +kernel
theorem dX6_waysToBeDue_52 : decode cX6_waysToBeDue 52 = .ok (.getfield 154, 3) := by decide +kernel
theorem dX6_waysToBeDue_55 : decode cX6_waysToBeDue 55 = .ok (.invokevirtual 148, 3) := by decide +kernel
theorem dX6_waysToBeDue_58 : decode cX6_waysToBeDue 58 = .ok (.iload_n 2, 1) := by decide +kernel
theorem dX6_waysToBeDue_59 : decode cX6_waysToBeDue 59 = .ok (.if_icmp .ne 6, 3) := by decide +kernel
theorem dX6_waysToBeDue_62 : decode cX6_waysToBeDue 62 = .ok (.iinc 3 1, 3) := by decide +kernel
theorem dX6_waysToBeDue_65 : decode cX6_waysToBeDue 65 = .ok (.iinc 5 1, 3) := by decide +kernel
theorem dX6_waysToBeDue_68 : decode cX6_waysToBeDue 68 = .ok (.goto (-41), 3) := by decide +kernel
theorem dX6_waysToBeDue_71 : decode cX6_waysToBeDue 71 = .ok (.iload_n 3, 1) := by decide +kernel
theorem dX6_waysToBeDue_72 : decode cX6_waysToBeDue 72 = .ok (.ireturn, 1) := by decide +kernel
theorem dX6_sheet_0 : decode cX6_sheet 0 = .ok (.aload_n 0, 1) := by decide +kernel
theorem dX6_sheet_1 : decode cX6_sheet 1 = .ok (.iconst 0, 1) := by decide +kernel
theorem dX6_sheet_2 : decode cX6_sheet 2 = .ok (.putfield 59, 3) := by decide +kernel
theorem dX6_sheet_5 : decode cX6_sheet 5 = .ok (.iload_n 1, 1) := by decide +kernel
theorem dX6_sheet_6 : decode cX6_sheet 6 = .ok (.invokestatic 62, 3) := by decide +kernel
theorem dX6_sheet_9 : decode cX6_sheet 9 = .ok (.ifCond .eq 5, 3) := by decide +kernel
theorem dX6_sheet_12 : decode cX6_sheet 12 = .ok (.iconst (-1), 1) := by decide +kernel
theorem dX6_sheet_13 : decode cX6_sheet 13 = .ok (.ireturn, 1) := by decide +kernel
theorem dX6_sheet_14 : decode cX6_sheet 14 = .ok (.iload_n 2, 1) := by decide +kernel
theorem dX6_sheet_15 : decode cX6_sheet 15 = .ok (.invokestatic 66, 3) := by decide +kernel
theorem dX6_sheet_18 : decode cX6_sheet 18 = .ok (.ifCond .ne 9, 3) := by decide +kernel
theorem dX6_sheet_21 : decode cX6_sheet 21 = .ok (.iload_n 3, 1) := by decide +kernel
theorem dX6_sheet_22 : decode cX6_sheet 22 = .ok (.bipush 60, 2) := by decide +kernel
theorem dX6_sheet_24 : decode cX6_sheet 24 = .ok (.if_icmp .le 6, 3) := by decide +kernel
theorem dX6_sheet_27 : decode cX6_sheet 27 = .ok (.bipush (-2), 2) := by decide +kernel
theorem dX6_sheet_29 : decode cX6_sheet 29 = .ok (.ireturn, 1) := by decide +kernel
theorem dX6_sheet_30 : decode cX6_sheet 30 = .ok (.iload_n 3, 1) := by decide +kernel
theorem dX6_sheet_31 : decode cX6_sheet 31 = .ok (.ifCond .ge 9, 3) := by decide +kernel
theorem dX6_sheet_34 : decode cX6_sheet 34 = .ok (.aload_n 0, 1) := by decide +kernel
theorem dX6_sheet_35 : decode cX6_sheet 35 = .ok (.iconst 4, 1) := by decide +kernel
theorem dX6_sheet_36 : decode cX6_sheet 36 = .ok (.invokevirtual 226, 3) := by decide +kernel
theorem dX6_sheet_39 : decode cX6_sheet 39 = .ok (.ireturn, 1) := by decide +kernel
theorem dX6_sheet_40 : decode cX6_sheet 40 = .ok (.aload_n 0, 1) := by decide +kernel
theorem dX6_sheet_41 : decode cX6_sheet 41 = .ok (.getfield 13, 3) := by decide +kernel
theorem dX6_sheet_44 : decode cX6_sheet 44 = .ok (.iload_n 1, 1) := by decide +kernel
theorem dX6_sheet_45 : decode cX6_sheet 45 = .ok (.aaload, 1) := by decide +kernel
theorem dX6_sheet_46 : decode cX6_sheet 46 = .ok (.iload_n 2, 1) := by decide +kernel
theorem dX6_sheet_47 : decode cX6_sheet 47 = .ok (.iload_n 3, 1) := by decide +kernel
theorem dX6_sheet_48 : decode cX6_sheet 48 = .ok (.invokevirtual 229, 3) := by decide +kernel
theorem dX6_sheet_51 : decode cX6_sheet 51 = .ok (.iconst 1, 1) := by decide +kernel
theorem dX6_sheet_52 : decode cX6_sheet 52 = .ok (.ireturn, 1) := by decide +kernel
theorem dX6_lose_0 : decode cX6_lose 0 = .ok (.iload_n 1, 1) := by decide +kernel
theorem dX6_lose_1 : decode cX6_lose 1 = .ok (.invokestatic 62, 3) := by decide +kernel
theorem dX6_lose_4 : decode cX6_lose 4 = .ok (.ifCond .eq 5, 3) := by decide +kernel
theorem dX6_lose_7 : decode cX6_lose 7 = .ok (.iconst (-1), 1) := by decide +kernel
theorem dX6_lose_8 : decode cX6_lose 8 = .ok (.ireturn, 1) := by decide +kernel
theorem dX6_lose_9 : decode cX6_lose 9 = .ok (.aload_n 0, 1) := by decide +kernel
theorem dX6_lose_10 : decode cX6_lose 10 = .ok (.getfield 13, 3) := by decide +kernel
theorem dX6_lose_13 : decode cX6_lose 13 = .ok (.iload_n 1, 1) := by decide +kernel
theorem dX6_lose_14 : decode cX6_lose 14 = .ok (.aaload, 1) := by decide +kernel
theorem dX6_lose_15 : decode cX6_lose 15 = .ok (.invokevirtual 233, 3) := by decide +kernel
theorem dX6_lose_18 : decode cX6_lose 18 = .ok (.ifCond .eq 7, 3) := by decide +kernel
theorem dX6_lose_21 : decode cX6_lose 21 = .ok (.iconst 0, 1) := by decide +kernel
theorem dX6_lose_22 : decode cX6_lose 22 = .ok (.goto 4, 3) := by decide +kernel
theorem dX6_lose_25 : decode cX6_lose 25 = .ok (.iconst 1, 1) := by decide +kernel
theorem dX6_lose_26 : decode cX6_lose 26 = .ok (.istore_n 2, 1) := by decide +kernel
theorem dX6_lose_27 : decode cX6_lose 27 = .ok (.aload_n 0, 1) := by decide +kernel
theorem dX6_lose_28 : decode cX6_lose 28 = .ok (.getfield 13, 3) := by decide +kernel
theorem dX6_lose_31 : decode cX6_lose 31 = .ok (.iload_n 1, 1) := by decide +kernel
theorem dX6_lose_32 : decode cX6_lose 32 = .ok (.aaload, 1) := by decide +kernel
theorem dX6_lose_33 : decode cX6_lose 33 = .ok (.iconst (-1), 1) := by decide +kernel
theorem dX6_lose_34 : decode cX6_lose 34 = .ok (.putfield 236, 3) := by decide +kernel
theorem dX6_lose_37 : decode cX6_lose 37 = .ok (.iload_n 2, 1) := by decide +kernel
theorem dX6_lose_38 : decode cX6_lose 38 = .ok (.ireturn, 1) := by decide +kernel
theorem dX6_put_0 : decode cX6_put 0 = .ok (.aload_n 0, 1) := by decide +kernel
theorem dX6_put_1 : decode cX6_put 1 = .ok (.iconst 0, 1) := by decide +kernel
theorem dX6_put_2 : decode cX6_put 2 = .ok (.putfield 59, 3) := by decide +kernel
theorem dX6_put_5 : decode cX6_put 5 = .ok (.iload_n 1, 1) := by decide +kernel
theorem dX6_put_6 : decode cX6_put 6 = .ok (.invokestatic 62, 3) := by decide +kernel
theorem dX6_put_9 : decode cX6_put 9 = .ok (.ifCond .eq 5, 3) := by decide +kernel
theorem dX6_put_12 : decode cX6_put 12 = .ok (.iconst (-1), 1) := by decide +kernel
theorem dX6_put_13 : decode cX6_put 13 = .ok (.ireturn, 1) := by decide +kernel
theorem dX6_put_14 : decode cX6_put 14 = .ok (.aload_n 0, 1) := by decide +kernel
theorem dX6_put_15 : decode cX6_put 15 = .ok (.getfield 13, 3) := by decide +kernel
theorem dX6_put_18 : decode cX6_put 18 = .ok (.iload_n 1, 1) := by decide +kernel
theorem dX6_put_19 : decode cX6_put 19 = .ok (.aaload, 1) := by decide +kernel
theorem dX6_put_20 : decode cX6_put 20 = .ok (.astore 4, 2) := by decide +kernel
theorem dX6_put_22 : decode cX6_put 22 = .ok (.aload 4, 2) := by decide +kernel
theorem dX6_put_24 : decode cX6_put 24 = .ok (.invokevirtual 233, 3) := by decide +kernel
theorem dX6_put_27 : decode cX6_put 27 = .ok (.ifCond .eq 9, 3) := by decide +kernel
theorem dX6_put_30 : decode cX6_put 30 = .ok (.aload_n 0, 1) := by decide +kernel
theorem dX6_put_31 : decode cX6_put 31 = .ok (.iconst 1, 1) := by decide +kernel
theorem dX6_put_32 : decode cX6_put 32 = .ok (.invokevirtual 226, 3) := by decide +kernel
theorem dX6_put_35 : decode cX6_put 35 = .ok (.ireturn, 1) := by decide +kernel
theorem dX6_put_36 : decode cX6_put 36 = .ok (.aload 4, 2) := by decide +kernel
theorem dX6_put_38 : decode cX6_put 38 = .ok (.iload_n 2, 1) := by decide +kernel
theorem dX6_put_39 : decode cX6_put 39 = .ok (.invokevirtual 239, 3) := by decide +kernel
theorem dX6_put_42 : decode cX6_put 42 = .ok (.ifCond .eq 9, 3) := by decide +kernel
theorem dX6_put_45 : decode cX6_put 45 = .ok (.aload_n 0, 1) := by decide +kernel
theorem dX6_put_46 : decode cX6_put 46 = .ok (.iconst 3, 1) := by decide +kernel
theorem dX6_put_47 : decode cX6_put 47 = .ok (.invokevirtual 226, 3) := by decide +kernel
theorem dX6_put_50 : decode cX6_put 50 = .ok (.ireturn, 1) := by decide +kernel
theorem dX6_put_51 : decode cX6_put 51 = .ok (.aload 4, 2) := by decide +kernel
theorem dX6_put_53 : decode cX6_put 53 = .ok (.getfield 73, 3) := by decide +kernel
theorem dX6_put_56 : decode cX6_put 56 = .ok (.iload_n 2, 1) := by decide +kernel
theorem dX6_put_57 : decode cX6_put 57 = .ok (.aload 4, 2) := by decide +kernel
theorem dX6_put_59 : decode cX6_put 59 = .ok (.iload_n 3, 1) := by decide +kernel
theorem dX6_put_60 : decode cX6_put 60 = .ok (.invokevirtual 242, 3) := by decide +kernel
theorem dX6_put_63 : decode cX6_put 63 = .ok (.iastore, 1) := by decide +kernel
theorem dX6_put_64 : decode cX6_put 64 = .ok (.iconst 1, 1) := by decide +kernel
theorem dX6_put_65 : decode cX6_put 65 = .ok (.ireturn, 1) := by decide +kernel
theorem dX6_cell_0 : decode cX6_cell 0 = .ok (.aload_n 0, 1) := by decide +kernel
theorem dX6_cell_1 : decode cX6_cell 1 = .ok (.iconst 0, 1) := by decide +kernel
theorem dX6_cell_2 : decode cX6_cell 2 = .ok (.putfield 59, 3) := by decide +kernel
theorem dX6_cell_5 : decode cX6_cell 5 = .ok (.iload_n 1, 1) := by decide +kernel
theorem dX6_cell_6 : decode cX6_cell 6 = .ok (.invokestatic 62, 3) := by decide +kernel
theorem dX6_cell_9 : decode cX6_cell 9 = .ok (.ifCond .ne 10, 3) := by decide +kernel
theorem dX6_cell_12 : decode cX6_cell 12 = .ok (.iload_n 3, 1) := by decide +kernel
theorem dX6_cell_13 : decode cX6_cell 13 = .ok (.invokestatic 66, 3) := by decide +kernel
theorem dX6_cell_16 : decode cX6_cell 16 = .ok (.ifCond .eq 7, 3) := by decide +kernel
theorem dX6_cell_19 : decode cX6_cell 19 = .ok (.ldc2_w 218, 3) := by decide +kernel
theorem dX6_cell_22 : decode cX6_cell 22 = .ok (.lreturn, 1) := by decide +kernel
theorem dX6_cell_23 : decode cX6_cell 23 = .ok (.aload_n 0, 1) := by decide +kernel
theorem dX6_cell_24 : decode cX6_cell 24 = .ok (.getfield 13, 3) := by decide +kernel
theorem dX6_cell_27 : decode cX6_cell 27 = .ok (.iload_n 1, 1) := by decide +kernel
theorem dX6_cell_28 : decode cX6_cell 28 = .ok (.aaload, 1) := by decide +kernel
theorem dX6_cell_29 : decode cX6_cell 29 = .ok (.astore 4, 2) := by decide +kernel
theorem dX6_cell_31 : decode cX6_cell 31 = .ok (.aload_n 0, 1) := by decide +kernel
theorem dX6_cell_32 : decode cX6_cell 32 = .ok (.aload 4, 2) := by decide +kernel
theorem dX6_cell_34 : decode cX6_cell 34 = .ok (.iload_n 3, 1) := by decide +kernel
theorem dX6_cell_35 : decode cX6_cell 35 = .ok (.invokevirtual 245, 3) := by decide +kernel
theorem dX6_cell_38 : decode cX6_cell 38 = .ok (.putfield 59, 3) := by decide +kernel
theorem dX6_cell_41 : decode cX6_cell 41 = .ok (.aload_n 0, 1) := by decide +kernel
theorem dX6_cell_42 : decode cX6_cell 42 = .ok (.getfield 59, 3) := by decide +kernel
theorem dX6_cell_45 : decode cX6_cell 45 = .ok (.ifCond .ne 17, 3) := by decide +kernel
theorem dX6_cell_48 : decode cX6_cell 48 = .ok (.aload 4, 2) := by decide +kernel
theorem dX6_cell_50 : decode cX6_cell 50 = .ok (.iload_n 2, 1) := by decide +kernel
theorem dX6_cell_51 : decode cX6_cell 51 = .ok (.invokevirtual 239, 3) := by decide +kernel
theorem dX6_cell_54 : decode cX6_cell 54 = .ok (.ifCond .eq 8, 3) := by decide +kernel
theorem dX6_cell_57 : decode cX6_cell 57 = .ok (.aload_n 0, 1) := by decide +kernel
theorem dX6_cell_58 : decode cX6_cell 58 = .ok (.iconst 3, 1) := by decide +kernel
theorem dX6_cell_59 : decode cX6_cell 59 = .ok (.putfield 59, 3) := by decide +kernel
theorem dX6_cell_62 : decode cX6_cell 62 = .ok (.aload_n 0, 1) := by decide +kernel
theorem dX6_cell_63 : decode cX6_cell 63 = .ok (.getfield 59, 3) := by decide +kernel
theorem dX6_cell_66 : decode cX6_cell 66 = .ok (.ifCond .ne 14, 3) := by decide +kernel
theorem dX6_cell_69 : decode cX6_cell 69 = .ok (.aload 4, 2) := by decide +kernel
theorem dX6_cell_71 : decode cX6_cell 71 = .ok (.getfield 73, 3) := by decide +kernel
theorem dX6_cell_74 : decode cX6_cell 74 = .ok (.iload_n 2, 1) := by decide +kernel
theorem dX6_cell_75 : decode cX6_cell 75 = .ok (.iaload, 1) := by decide +kernel
theorem dX6_cell_76 : decode cX6_cell 76 = .ok (.i2l, 1) := by decide +kernel
theorem dX6_cell_77 : decode cX6_cell 77 = .ok (.goto 6, 3) := by decide +kernel
theorem dX6_cell_80 : decode cX6_cell 80 = .ok (.ldc2_w 218, 3) := by decide +kernel
theorem dX6_cell_83 : decode cX6_cell 83 = .ok (.lreturn, 1) := by decide +kernel
theorem dX6_copy_0 : decode cX6_copy 0 = .ok (.aload_n 0, 1) := by decide +kernel
theorem dX6_copy_1 : decode cX6_copy 1 = .ok (.iconst 0, 1) := by decide +kernel
theorem dX6_copy_2 : decode cX6_copy 2 = .ok (.putfield 59, 3) := by decide +kernel
theorem dX6_copy_5 : decode cX6_copy 5 = .ok (.iload_n 1, 1) := by decide +kernel
theorem dX6_copy_6 : decode cX6_copy 6 = .ok (.invokestatic 62, 3) := by decide +kernel
theorem dX6_copy_9 : decode cX6_copy 9 = .ok (.ifCond .ne 10, 3) := by decide +kernel
theorem dX6_copy_12 : decode cX6_copy 12 = .ok (.iload_n 3, 1) := by decide +kernel
theorem dX6_copy_13 : decode cX6_copy 13 = .ok (.invokestatic 62, 3) := by decide +kernel
theorem dX6_copy_16 : decode cX6_copy 16 = .ok (.ifCond .eq 5, 3) := by decide +kernel
theorem dX6_copy_19 : decode cX6_copy 19 = .ok (.iconst (-1), 1) := by decide +kernel
theorem dX6_copy_20 : decode cX6_copy 20 = .ok (.ireturn, 1) := by decide +kernel
theorem dX6_copy_21 : decode cX6_copy 21 = .ok (.aload_n 0, 1) := by decide +kernel
theorem dX6_copy_22 : decode cX6_copy 22 = .ok (.getfield 13, 3) := by decide +kernel
theorem dX6_copy_25 : decode cX6_copy 25 = .ok (.iload_n 1, 1) := by decide +kernel
theorem dX6_copy_26 : decode cX6_copy 26 = .ok (.aaload, 1) := by decide +kernel
theorem dX6_copy_27 : decode cX6_copy 27 = .ok (.astore 6, 2) := by decide +kernel
theorem dX6_copy_29 : decode cX6_copy 29 = .ok (.aload_n 0, 1) := by decide +kernel
theorem dX6_copy_30 : decode cX6_copy 30 = .ok (.getfield 13, 3) := by decide +kernel
theorem dX6_copy_33 : decode cX6_copy 33 = .ok (.iload_n 3, 1) := by decide +kernel
theorem dX6_copy_34 : decode cX6_copy 34 = .ok (.aaload, 1) := by decide +kernel
theorem dX6_copy_35 : decode cX6_copy 35 = .ok (.astore 7, 2) := by decide +kernel
theorem dX6_copy_37 : decode cX6_copy 37 = .ok (.aload 6, 2) := by decide +kernel
theorem dX6_copy_39 : decode cX6_copy 39 = .ok (.invokevirtual 233, 3) := by decide +kernel
theorem dX6_copy_42 : decode cX6_copy 42 = .ok (.ifCond .ne 11, 3) := by decide +kernel
theorem dX6_copy_45 : decode cX6_copy 45 = .ok (.aload 7, 2) := by decide +kernel
theorem dX6_copy_47 : decode cX6_copy 47 = .ok (.invokevirtual 233, 3) := by decide +kernel
theorem dX6_copy_50 : decode cX6_copy 50 = .ok (.ifCond .eq 9, 3) := by decide +kernel
theorem dX6_copy_53 : decode cX6_copy 53 = .ok (.aload_n 0, 1) := by decide +kernel
theorem dX6_copy_54 : decode cX6_copy 54 = .ok (.iconst 1, 1) := by decide +kernel
theorem dX6_copy_55 : decode cX6_copy 55 = .ok (.invokevirtual 226, 3) := by decide +kernel
theorem dX6_copy_58 : decode cX6_copy 58 = .ok (.ireturn, 1) := by decide +kernel
theorem dX6_copy_59 : decode cX6_copy 59 = .ok (.aload 6, 2) := by decide +kernel
theorem dX6_copy_61 : decode cX6_copy 61 = .ok (.getfield 236, 3) := by decide +kernel
theorem dX6_copy_64 : decode cX6_copy 64 = .ok (.aload 7, 2) := by decide +kernel
theorem dX6_copy_66 : decode cX6_copy 66 = .ok (.getfield 236, 3) := by decide +kernel
theorem dX6_copy_69 : decode cX6_copy 69 = .ok (.if_icmp .eq 9, 3) := by decide +kernel
theorem dX6_copy_72 : decode cX6_copy 72 = .ok (.aload_n 0, 1) := by decide +kernel
theorem dX6_copy_73 : decode cX6_copy 73 = .ok (.iconst 2, 1) := by decide +kernel
theorem dX6_copy_74 : decode cX6_copy 74 = .ok (.invokevirtual 226, 3) := by decide +kernel
theorem dX6_copy_77 : decode cX6_copy 77 = .ok (.ireturn, 1) := by decide +kernel
theorem dX6_copy_78 : decode cX6_copy 78 = .ok (.iload 5, 2) := by decide +kernel
theorem dX6_copy_80 : decode cX6_copy 80 = .ok (.ifCond .lt 26, 3) := by decide +kernel
theorem dX6_copy_83 : decode cX6_copy 83 = .ok (.aload 6, 2) := by decide +kernel
theorem dX6_copy_85 : decode cX6_copy 85 = .ok (.iload_n 2, 1) := by decide +kernel
theorem dX6_copy_86 : decode cX6_copy 86 = .ok (.iload 5, 2) := by decide +kernel
theorem dX6_copy_88 : decode cX6_copy 88 = .ok (.invokevirtual 248, 3) := by decide +kernel
theorem dX6_copy_91 : decode cX6_copy 91 = .ok (.ifCond .ne 15, 3) := by decide +kernel
theorem dX6_copy_94 : decode cX6_copy 94 = .ok (.aload 7, 2) := by decide +kernel
theorem dX6_copy_96 : decode cX6_copy 96 = .ok (.iload 4, 2) := by decide +kernel
theorem dX6_copy_98 : decode cX6_copy 98 = .ok (.iload 5, 2) := by decide +kernel
theorem dX6_copy_100 : decode cX6_copy 100 = .ok (.invokevirtual 248, 3) := by decide +kernel
theorem dX6_copy_103 : decode cX6_copy 103 = .ok (.ifCond .eq 9, 3) := by decide +kernel
theorem dX6_copy_106 : decode cX6_copy 106 = .ok (.aload_n 0, 1) := by decide +kernel
theorem dX6_copy_107 : decode cX6_copy 107 = .ok (.iconst 3, 1) := by decide +kernel
theorem dX6_copy_108 : decode cX6_copy 108 = .ok (.invokevirtual 226, 3) := by decide +kernel
theorem dX6_copy_111 : decode cX6_copy 111 = .ok (.ireturn, 1) := by decide +kernel
theorem dX6_copy_112 : decode cX6_copy 112 = .ok (.aload 6, 2) := by decide +kernel
theorem dX6_copy_114 : decode cX6_copy 114 = .ok (.getfield 73, 3) := by decide +kernel
theorem dX6_copy_117 : decode cX6_copy 117 = .ok (.iload_n 2, 1) := by decide +kernel
theorem dX6_copy_118 : decode cX6_copy 118 = .ok (.aload 7, 2) := by decide +kernel
theorem dX6_copy_120 : decode cX6_copy 120 = .ok (.getfield 73, 3) := by decide +kernel
theorem dX6_copy_123 : decode cX6_copy 123 = .ok (.iload 4, 2) := by decide +kernel
theorem dX6_copy_125 : decode cX6_copy 125 = .ok (.iload 5, 2) := by decide +kernel
theorem dX6_copy_127 : decode cX6_copy 127 = .ok (.invokestatic 251, 3) := by decide +kernel
theorem dX6_copy_130 : decode cX6_copy 130 = .ok (.iload 5, 2) := by decide +kernel
theorem dX6_copy_132 : decode cX6_copy 132 = .ok (.ireturn, 1) := by decide +kernel
theorem dX6_tell_0 : decode cX6_tell 0 = .ok (.aload_n 0, 1) := by decide +kernel
theorem dX6_tell_1 : decode cX6_tell 1 = .ok (.iload_n 1, 1) := by decide +kernel
theorem dX6_tell_2 : decode cX6_tell 2 = .ok (.invokevirtual 96, 3) := by decide +kernel
theorem dX6_tell_5 : decode cX6_tell 5 = .ok (.ifCond .eq 5, 3) := by decide +kernel
theorem dX6_tell_8 : decode cX6_tell 8 = .ok (.iconst (-1), 1) := by decide +kernel
theorem dX6_tell_9 : decode cX6_tell 9 = .ok (.ireturn, 1) := by decide +kernel
theorem dX6_tell_10 : decode cX6_tell 10 = .ok (.aload_n 0, 1) := by decide +kernel
theorem dX6_tell_11 : decode cX6_tell 11 = .ok (.getfield 21, 3) := by decide +kernel
theorem dX6_tell_14 : decode cX6_tell 14 = .ok (.getfield 99, 3) := by decide +kernel
theorem dX6_tell_17 : decode cX6_tell 17 = .ok (.iload_n 1, 1) := by decide +kernel
theorem dX6_tell_18 : decode cX6_tell 18 = .ok (.iaload, 1) := by decide +kernel
theorem dX6_tell_19 : decode cX6_tell 19 = .ok (.lookupswitch 37 #[(1, 31), (2, 25)], 25) := by decide +kernel
theorem dX6_tell_44 : decode cX6_tell 44 = .ok (.aload_n 0, 1) := by decide +kernel
theorem dX6_tell_45 : decode cX6_tell 45 = .ok (.iload_n 1, 1) := by decide +kernel
theorem dX6_tell_46 : decode cX6_tell 46 = .ok (.invokevirtual 257, 3) := by decide +kernel
theorem dX6_tell_49 : decode cX6_tell 49 = .ok (.ireturn, 1) := by decide +kernel
theorem dX6_tell_50 : decode cX6_tell 50 = .ok (.aload_n 0, 1) := by decide +kernel
theorem dX6_tell_51 : decode cX6_tell 51 = .ok (.iload_n 1, 1) := by decide +kernel
theorem dX6_tell_52 : decode cX6_tell 52 = .ok (.invokevirtual 260, 3) := by decide +kernel
theorem dX6_tell_55 : decode cX6_tell 55 = .ok (.ireturn, 1) := by decide +kernel
theorem dX6_tell_56 : decode cX6_tell 56 = .ok (.aload_n 0, 1) := by decide +kernel
theorem dX6_tell_57 : decode cX6_tell 57 = .ok (.iload_n 1, 1) := by decide +kernel
theorem dX6_tell_58 : decode cX6_tell 58 = .ok (.invokevirtual 263, 3) := by decide +kernel
theorem dX6_tell_61 : decode cX6_tell 61 = .ok (.ireturn, 1) := by decide +kernel
theorem dX6_tellPassenger_0 : decode cX6_tellPassenger 0 = .ok (.aload_n 0, 1) := by decide +kernel
theorem dX6_tellPassenger_1 : decode cX6_tellPassenger 1 = .ok (.iconst 1, 1) := by decide +kernel
theorem dX6_tellPassenger_2 : decode cX6_tellPassenger 2 = .ok (.invokevirtual 266, 3) := by decide +kernel
theorem dX6_tellPassenger_5 : decode cX6_tellPassenger 5 = .ok (.aload_n 0, 1) := by decide +kernel
theorem dX6_tellPassenger_6 : decode cX6_tellPassenger 6 = .ok (.getfield 21, 3) := by decide +kernel
theorem dX6_tellPassenger_9 : decode cX6_tellPassenger 9 = .ok (.getfield 105, 3) := by decide +kernel
theorem dX6_tellPassenger_12 : decode cX6_tellPassenger 12 = .ok (.iload_n 1, 1) := by decide +kernel
theorem dX6_tellPassenger_13 : decode cX6_tellPassenger 13 = .ok (.iaload, 1) := by decide +kernel
theorem dX6_tellPassenger_14 : decode cX6_tellPassenger 14 = .ok (.ireturn, 1) := by decide +kernel
theorem dX6_tellWidow_0 : decode cX6_tellWidow 0 = .ok (.aload_n 0, 1) := by decide +kernel
theorem dX6_tellWidow_1 : decode cX6_tellWidow 1 = .ok (.iconst 2, 1) := by decide +kernel
theorem dX6_tellWidow_2 : decode cX6_tellWidow 2 = .ok (.invokevirtual 266, 3) := by decide +kernel
theorem dX6_tellWidow_5 : decode cX6_tellWidow 5 = .ok (.aload_n 0, 1) := by decide +kernel
theorem dX6_tellWidow_6 : decode cX6_tellWidow 6 = .ok (.iload_n 1, 1) := by decide +kernel
theorem dX6_tellWidow_7 : decode cX6_tellWidow 7 = .ok (.invokevirtual 263, 3) := by decide +kernel
theorem dX6_tellWidow_10 : decode cX6_tellWidow 10 = .ok (.bipush 100, 2) := by decide +kernel
theorem dX6_tellWidow_12 : decode cX6_tellWidow 12 = .ok (.iadd, 1) := by decide +kernel
theorem dX6_tellWidow_13 : decode cX6_tellWidow 13 = .ok (.ireturn, 1) := by decide +kernel
theorem dX6_tellHoneymooner_0 : decode cX6_tellHoneymooner 0 = .ok (.aload_n 0, 1) := by decide +kernel
theorem dX6_tellHoneymooner_1 : decode cX6_tellHoneymooner 1 = .ok (.iconst 3, 1) := by decide +kernel
theorem dX6_tellHoneymooner_2 : decode cX6_tellHoneymooner 2 = .ok (.invokevirtual 266, 3) := by decide +kernel
theorem dX6_tellHoneymooner_5 : decode cX6_tellHoneymooner 5 = .ok (.aload_n 0, 1) := by decide +kernel
theorem dX6_tellHoneymooner_6 : decode cX6_tellHoneymooner 6 = .ok (.iload_n 1, 1) := by decide +kernel
theorem dX6_tellHoneymooner_7 : decode cX6_tellHoneymooner 7 = .ok (.invokevirtual 260, 3) := by decide +kernel
theorem dX6_tellHoneymooner_10 : decode cX6_tellHoneymooner 10 = .ok (.istore_n 2, 1) := by decide +kernel
theorem dX6_tellHoneymooner_11 : decode cX6_tellHoneymooner 11 = .ok (.iload_n 2, 1) := by decide +kernel
theorem dX6_tellHoneymooner_12 : decode cX6_tellHoneymooner 12 = .ok (.aload_n 0, 1) := by decide +kernel
theorem dX6_tellHoneymooner_13 : decode cX6_tellHoneymooner 13 = .ok (.iload_n 1, 1) := by decide +kernel
theorem dX6_tellHoneymooner_14 : decode cX6_tellHoneymooner 14 = .ok (.invokevirtual 263, 3) := by decide +kernel
theorem dX6_tellHoneymooner_17 : decode cX6_tellHoneymooner 17 = .ok (.iadd, 1) := by decide +kernel
theorem dX6_tellHoneymooner_18 : decode cX6_tellHoneymooner 18 = .ok (.ireturn, 1) := by decide +kernel
theorem dX6_call_0 : decode cX6_call 0 = .ok (.aload_n 0, 1) := by decide +kernel
theorem dX6_call_1 : decode cX6_call 1 = .ok (.iload_n 1, 1) := by decide +kernel
theorem dX6_call_2 : decode cX6_call 2 = .ok (.invokevirtual 96, 3) := by decide +kernel
theorem dX6_call_5 : decode cX6_call 5 = .ok (.ifCond .eq 5, 3) := by decide +kernel
theorem dX6_call_8 : decode cX6_call 8 = .ok (.iconst (-1), 1) := by decide +kernel
theorem dX6_call_9 : decode cX6_call 9 = .ok (.ireturn, 1) := by decide +kernel
theorem dX6_call_10 : decode cX6_call 10 = .ok (.aload_n 0, 1) := by decide +kernel
theorem dX6_call_11 : decode cX6_call 11 = .ok (.getfield 21, 3) := by decide +kernel
theorem dX6_call_14 : decode cX6_call 14 = .ok (.getfield 99, 3) := by decide +kernel
theorem dX6_call_17 : decode cX6_call 17 = .ok (.iload_n 1, 1) := by decide +kernel
theorem dX6_call_18 : decode cX6_call 18 = .ok (.iaload, 1) := by decide +kernel
theorem dX6_call_19 : decode cX6_call 19 = .ok (.iconst 2, 1) := by decide +kernel
theorem dX6_call_20 : decode cX6_call 20 = .ok (.if_icmp .ne 11, 3) := by decide +kernel
theorem dX6_call_23 : decode cX6_call 23 = .ok (.aload_n 0, 1) := by decide +kernel
theorem dX6_call_24 : decode cX6_call 24 = .ok (.iconst 5, 1) := by decide +kernel
theorem dX6_call_25 : decode cX6_call 25 = .ok (.invokevirtual 266, 3) := by decide +kernel
theorem dX6_call_28 : decode cX6_call 28 = .ok (.bipush 60, 2) := by decide +kernel
theorem dX6_call_30 : decode cX6_call 30 = .ok (.ireturn, 1) := by decide +kernel
theorem dX6_call_31 : decode cX6_call 31 = .ok (.aload_n 0, 1) := by decide +kernel
theorem dX6_call_32 : decode cX6_call 32 = .ok (.iconst 4, 1) := by decide +kernel
theorem dX6_call_33 : decode cX6_call 33 = .ok (.invokevirtual 266, 3) := by decide +kernel
theorem dX6_call_36 : decode cX6_call 36 = .ok (.iload_n 1, 1) := by decide +kernel
theorem dX6_call_37 : decode cX6_call 37 = .ok (.ireturn, 1) := by decide +kernel
theorem dX6_leaveTrace_0 : decode cX6_leaveTrace 0 = .ok (.aload_n 0, 1) := by decide +kernel
theorem dX6_leaveTrace_1 : decode cX6_leaveTrace 1 = .ok (.bipush 31, 2) := by decide +kernel
theorem dX6_leaveTrace_3 : decode cX6_leaveTrace 3 = .ok (.aload_n 0, 1) := by decide +kernel
theorem dX6_leaveTrace_4 : decode cX6_leaveTrace 4 = .ok (.getfield 55, 3) := by decide +kernel
theorem dX6_leaveTrace_7 : decode cX6_leaveTrace 7 = .ok (.imul, 1) := by decide +kernel
theorem dX6_leaveTrace_8 : decode cX6_leaveTrace 8 = .ok (.iload_n 1, 1) := by decide +kernel
theorem dX6_leaveTrace_9 : decode cX6_leaveTrace 9 = .ok (.iadd, 1) := by decide +kernel
theorem dX6_leaveTrace_10 : decode cX6_leaveTrace 10 = .ok (.putfield 55, 3) := by decide +kernel
theorem dX6_leaveTrace_13 : decode cX6_leaveTrace 13 = .ok (.return_, 1) := by decide +kernel
theorem dX6_as_0 : decode cX6_as 0 = .ok (.aload_n 0, 1) := by decide +kernel
theorem dX6_as_1 : decode cX6_as 1 = .ok (.iconst 0, 1) := by decide +kernel
theorem dX6_as_2 : decode cX6_as 2 = .ok (.putfield 59, 3) := by decide +kernel
theorem dX6_as_5 : decode cX6_as 5 = .ok (.aload_n 0, 1) := by decide +kernel
theorem dX6_as_6 : decode cX6_as 6 = .ok (.iload_n 1, 1) := by decide +kernel
theorem dX6_as_7 : decode cX6_as 7 = .ok (.invokevirtual 96, 3) := by decide +kernel
theorem dX6_as_10 : decode cX6_as 10 = .ok (.ifCond .eq 5, 3) := by decide +kernel
theorem dX6_as_13 : decode cX6_as 13 = .ok (.iconst (-1), 1) := by decide +kernel
theorem dX6_as_14 : decode cX6_as 14 = .ok (.ireturn, 1) := by decide +kernel
theorem dX6_as_15 : decode cX6_as 15 = .ok (.iload_n 2, 1) := by decide +kernel
theorem dX6_as_16 : decode cX6_as 16 = .ok (.ifCond .lt 8, 3) := by decide +kernel
theorem dX6_as_19 : decode cX6_as 19 = .ok (.iload_n 2, 1) := by decide +kernel
theorem dX6_as_20 : decode cX6_as 20 = .ok (.iconst 3, 1) := by decide +kernel
theorem dX6_as_21 : decode cX6_as 21 = .ok (.if_icmp .lt 6, 3) := by decide +kernel
theorem dX6_as_24 : decode cX6_as 24 = .ok (.bipush (-2), 2) := by decide +kernel
theorem dX6_as_26 : decode cX6_as 26 = .ok (.ireturn, 1) := by decide +kernel
theorem dX6_as_27 : decode cX6_as 27 = .ok (.aload_n 0, 1) := by decide +kernel
theorem dX6_as_28 : decode cX6_as 28 = .ok (.getfield 21, 3) := by decide +kernel
theorem dX6_as_31 : decode cX6_as 31 = .ok (.getfield 99, 3) := by decide +kernel
theorem dX6_as_34 : decode cX6_as 34 = .ok (.iload_n 1, 1) := by decide +kernel
theorem dX6_as_35 : decode cX6_as 35 = .ok (.iaload, 1) := by decide +kernel
theorem dX6_as_36 : decode cX6_as 36 = .ok (.iload_n 2, 1) := by decide +kernel
theorem dX6_as_37 : decode cX6_as 37 = .ok (.if_icmp .ge 11, 3) := by decide +kernel
theorem dX6_as_40 : decode cX6_as 40 = .ok (.aload_n 0, 1) := by decide +kernel
theorem dX6_as_41 : decode cX6_as 41 = .ok (.iconst 2, 1) := by decide +kernel
theorem dX6_as_42 : decode cX6_as 42 = .ok (.invokevirtual 226, 3) := by decide +kernel
theorem dX6_as_45 : decode cX6_as 45 = .ok (.goto 4, 3) := by decide +kernel
theorem dX6_as_48 : decode cX6_as 48 = .ok (.iconst 1, 1) := by decide +kernel
theorem dX6_as_49 : decode cX6_as 49 = .ok (.ireturn, 1) := by decide +kernel
theorem dX6_trace_0 : decode cX6_trace 0 = .ok (.aload_n 0, 1) := by decide +kernel
theorem dX6_trace_1 : decode cX6_trace 1 = .ok (.getfield 55, 3) := by decide +kernel
theorem dX6_trace_4 : decode cX6_trace 4 = .ok (.ireturn, 1) := by decide +kernel
theorem dX6_fault_0 : decode cX6_fault 0 = .ok (.aload_n 0, 1) := by decide +kernel
theorem dX6_fault_1 : decode cX6_fault 1 = .ok (.getfield 59, 3) := by decide +kernel
theorem dX6_fault_4 : decode cX6_fault 4 = .ok (.ireturn, 1) := by decide +kernel
theorem dX6_many_0 : decode cX6_many 0 = .ok (.iload_n 1, 1) := by decide +kernel
theorem dX6_many_1 : decode cX6_many 1 = .ok (.tableswitch 51 0 2 #[27, 35, 43], 27) := by decide +kernel
theorem dX6_many_28 : decode cX6_many 28 = .ok (.aload_n 0, 1) := by decide +kernel
theorem dX6_many_29 : decode cX6_many 29 = .ok (.getfield 21, 3) := by decide +kernel
theorem dX6_many_32 : decode cX6_many 32 = .ok (.getfield 93, 3) := by decide +kernel
theorem dX6_many_35 : decode cX6_many 35 = .ok (.ireturn, 1) := by decide +kernel
theorem dX6_many_36 : decode cX6_many 36 = .ok (.aload_n 0, 1) := by decide +kernel
theorem dX6_many_37 : decode cX6_many 37 = .ok (.getfield 21, 3) := by decide +kernel
theorem dX6_many_40 : decode cX6_many 40 = .ok (.getfield 154, 3) := by decide +kernel
theorem dX6_many_43 : decode cX6_many 43 = .ok (.ireturn, 1) := by decide +kernel
theorem dX6_many_44 : decode cX6_many 44 = .ok (.aload_n 0, 1) := by decide +kernel
theorem dX6_many_45 : decode cX6_many 45 = .ok (.getfield 31, 3) := by decide +kernel
theorem dX6_many_48 : decode cX6_many 48 = .ok (.getfield 87, 3) := by decide +kernel
theorem dX6_many_51 : decode cX6_many 51 = .ok (.ireturn, 1) := by decide +kernel
theorem dX6_many_52 : decode cX6_many 52 = .ok (.bipush (-2), 2) := by decide +kernel
theorem dX6_many_54 : decode cX6_many 54 = .ok (.ireturn, 1) := by decide +kernel
theorem dX6_comeTo_0 : decode cX6_comeTo 0 = .ok (.aload_n 0, 1) := by decide +kernel
theorem dX6_comeTo_1 : decode cX6_comeTo 1 = .ok (.iload_n 1, 1) := by decide +kernel
theorem dX6_comeTo_2 : decode cX6_comeTo 2 = .ok (.putfield 59, 3) := by decide +kernel
theorem dX6_comeTo_5 : decode cX6_comeTo 5 = .ok (.bipush (-10), 2) := by decide +kernel
theorem dX6_comeTo_7 : decode cX6_comeTo 7 = .ok (.iload_n 1, 1) := by decide +kernel
theorem dX6_comeTo_8 : decode cX6_comeTo 8 = .ok (.isub, 1) := by decide +kernel
theorem dX6_comeTo_9 : decode cX6_comeTo 9 = .ok (.ireturn, 1) := by decide +kernel
theorem dX6_rideAnew_0 : decode cX6_rideAnew 0 = .ok (.aload_n 0, 1) := by decide +kernel
theorem dX6_rideAnew_1 : decode cX6_rideAnew 1 = .ok (.getfield 21, 3) := by decide +kernel
theorem dX6_rideAnew_4 : decode cX6_rideAnew 4 = .ok (.invokevirtual 211, 3) := by decide +kernel
theorem dX6_rideAnew_7 : decode cX6_rideAnew 7 = .ok (.aload_n 0, 1) := by decide +kernel
theorem dX6_rideAnew_8 : decode cX6_rideAnew 8 = .ok (.iconst 0, 1) := by decide +kernel
theorem dX6_rideAnew_9 : decode cX6_rideAnew 9 = .ok (.putfield 51, 3) := by decide +kernel
theorem dX6_rideAnew_12 : decode cX6_rideAnew 12 = .ok (.return_, 1) := by decide +kernel
theorem dX6_noLine_0 : decode cX6_noLine 0 = .ok (.aload_n 0, 1) := by decide +kernel
theorem dX6_noLine_1 : decode cX6_noLine 1 = .ok (.getfield 21, 3) := by decide +kernel
theorem dX6_noLine_4 : decode cX6_noLine 4 = .ok (.getfield 154, 3) := by decide +kernel
theorem dX6_noLine_7 : decode cX6_noLine 7 = .ok (.ifCond .ne 7, 3) := by decide +kernel
theorem dX6_noLine_10 : decode cX6_noLine 10 = .ok (.iconst 1, 1) := by decide +kernel
theorem dX6_noLine_11 : decode cX6_noLine 11 = .ok (.goto 4, 3) := by decide +kernel
theorem dX6_noLine_14 : decode cX6_noLine 14 = .ok (.iconst 0, 1) := by decide +kernel
theorem dX6_noLine_15 : decode cX6_noLine 15 = .ok (.ireturn, 1) := by decide +kernel
theorem dX6_noPassenger_0 : decode cX6_noPassenger 0 = .ok (.iload_n 1, 1) := by decide +kernel
theorem dX6_noPassenger_1 : decode cX6_noPassenger 1 = .ok (.ifCond .lt 14, 3) := by decide +kernel
theorem dX6_noPassenger_4 : decode cX6_noPassenger 4 = .ok (.iload_n 1, 1) := by decide +kernel
theorem dX6_noPassenger_5 : decode cX6_noPassenger 5 = .ok (.aload_n 0, 1) := by decide +kernel
theorem dX6_noPassenger_6 : decode cX6_noPassenger 6 = .ok (.getfield 21, 3) := by decide +kernel
theorem dX6_noPassenger_9 : decode cX6_noPassenger 9 = .ok (.getfield 93, 3) := by decide +kernel
theorem dX6_noPassenger_12 : decode cX6_noPassenger 12 = .ok (.if_icmp .lt 7, 3) := by decide +kernel
theorem dX6_noPassenger_15 : decode cX6_noPassenger 15 = .ok (.iconst 1, 1) := by decide +kernel
theorem dX6_noPassenger_16 : decode cX6_noPassenger 16 = .ok (.goto 4, 3) := by decide +kernel
theorem dX6_noPassenger_19 : decode cX6_noPassenger 19 = .ok (.iconst 0, 1) := by decide +kernel
theorem dX6_noPassenger_20 : decode cX6_noPassenger 20 = .ok (.ireturn, 1) := by decide +kernel
theorem dX6_noPair_0 : decode cX6_noPair 0 = .ok (.aload_n 0, 1) := by decide +kernel
theorem dX6_noPair_1 : decode cX6_noPair 1 = .ok (.iload_n 1, 1) := by decide +kernel
theorem dX6_noPair_2 : decode cX6_noPair 2 = .ok (.invokevirtual 96, 3) := by decide +kernel
theorem dX6_noPair_5 : decode cX6_noPair 5 = .ok (.ifCond .ne 16, 3) := by decide +kernel
theorem dX6_noPair_8 : decode cX6_noPair 8 = .ok (.aload_n 0, 1) := by decide +kernel
theorem dX6_noPair_9 : decode cX6_noPair 9 = .ok (.iload_n 2, 1) := by decide +kernel
theorem dX6_noPair_10 : decode cX6_noPair 10 = .ok (.invokevirtual 96, 3) := by decide +kernel
theorem dX6_noPair_13 : decode cX6_noPair 13 = .ok (.ifCond .ne 8, 3) := by decide +kernel
theorem dX6_noPair_16 : decode cX6_noPair 16 = .ok (.iload_n 1, 1) := by decide +kernel
theorem dX6_noPair_17 : decode cX6_noPair 17 = .ok (.iload_n 2, 1) := by decide +kernel
theorem dX6_noPair_18 : decode cX6_noPair 18 = .ok (.if_icmp .ne 7, 3) := by decide +kernel
theorem dX6_noPair_21 : decode cX6_noPair 21 = .ok (.iconst 1, 1) := by decide +kernel
theorem dX6_noPair_22 : decode cX6_noPair 22 = .ok (.goto 4, 3) := by decide +kernel
theorem dX6_noPair_25 : decode cX6_noPair 25 = .ok (.iconst 0, 1) := by decide +kernel
theorem dX6_noPair_26 : decode cX6_noPair 26 = .ok (.ireturn, 1) := by decide +kernel
theorem dX6_noMile_0 : decode cX6_noMile 0 = .ok (.iload_n 1, 1) := by decide +kernel
theorem dX6_noMile_1 : decode cX6_noMile 1 = .ok (.ifCond .lt 14, 3) := by decide +kernel
theorem dX6_noMile_4 : decode cX6_noMile 4 = .ok (.iload_n 1, 1) := by decide +kernel
theorem dX6_noMile_5 : decode cX6_noMile 5 = .ok (.aload_n 0, 1) := by decide +kernel
theorem dX6_noMile_6 : decode cX6_noMile 6 = .ok (.getfield 21, 3) := by decide +kernel
theorem dX6_noMile_9 : decode cX6_noMile 9 = .ok (.getfield 154, 3) := by decide +kernel
theorem dX6_noMile_12 : decode cX6_noMile 12 = .ok (.if_icmp .lt 7, 3) := by decide +kernel
theorem dX6_noMile_15 : decode cX6_noMile 15 = .ok (.iconst 1, 1) := by decide +kernel
theorem dX6_noMile_16 : decode cX6_noMile 16 = .ok (.goto 4, 3) := by decide +kernel
theorem dX6_noMile_19 : decode cX6_noMile 19 = .ok (.iconst 0, 1) := by decide +kernel
theorem dX6_noMile_20 : decode cX6_noMile 20 = .ok (.ireturn, 1) := by decide +kernel
theorem dX6_noMileNorEnd_0 : decode cX6_noMileNorEnd 0 = .ok (.iload_n 1, 1) := by decide +kernel
theorem dX6_noMileNorEnd_1 : decode cX6_noMileNorEnd 1 = .ok (.ifCond .lt 14, 3) := by decide +kernel
theorem dX6_noMileNorEnd_4 : decode cX6_noMileNorEnd 4 = .ok (.iload_n 1, 1) := by decide +kernel
theorem dX6_noMileNorEnd_5 : decode cX6_noMileNorEnd 5 = .ok (.aload_n 0, 1) := by decide +kernel
theorem dX6_noMileNorEnd_6 : decode cX6_noMileNorEnd 6 = .ok (.getfield 21, 3) := by decide +kernel
theorem dX6_noMileNorEnd_9 : decode cX6_noMileNorEnd 9 = .ok (.getfield 154, 3) := by decide +kernel
theorem dX6_noMileNorEnd_12 : decode cX6_noMileNorEnd 12 = .ok (.if_icmp .le 7, 3) := by decide +kernel
theorem dX6_noMileNorEnd_15 : decode cX6_noMileNorEnd 15 = .ok (.iconst 1, 1) := by decide +kernel
theorem dX6_noMileNorEnd_16 : decode cX6_noMileNorEnd 16 = .ok (.goto 4, 3) := by decide +kernel
theorem dX6_noMileNorEnd_19 : decode cX6_noMileNorEnd 19 = .ok (.iconst 0, 1) := by decide +kernel
theorem dX6_noMileNorEnd_20 : decode cX6_noMileNorEnd 20 = .ok (.ireturn, 1) := by decide +kernel
theorem dX6_noClass_0 : decode cX6_noClass 0 = .ok (.iload_n 0, 1) := by decide +kernel
theorem dX6_noClass_1 : decode cX6_noClass 1 = .ok (.ifCond .lt 8, 3) := by decide +kernel
theorem dX6_noClass_4 : decode cX6_noClass 4 = .ok (.iload_n 0, 1) := by decide +kernel
theorem dX6_noClass_5 : decode cX6_noClass 5 = .ok (.iconst 3, 1) := by decide +kernel
theorem dX6_noClass_6 : decode cX6_noClass 6 = .ok (.if_icmp .lt 7, 3) := by decide +kernel
theorem dX6_noClass_9 : decode cX6_noClass 9 = .ok (.iconst 1, 1) := by decide +kernel
theorem dX6_noClass_10 : decode cX6_noClass 10 = .ok (.goto 4, 3) := by decide +kernel
theorem dX6_noClass_13 : decode cX6_noClass 13 = .ok (.iconst 0, 1) := by decide +kernel
theorem dX6_noClass_14 : decode cX6_noClass 14 = .ok (.ireturn, 1) := by decide +kernel
theorem dX6_noSheet_0 : decode cX6_noSheet 0 = .ok (.iload_n 0, 1) := by decide +kernel
theorem dX6_noSheet_1 : decode cX6_noSheet 1 = .ok (.ifCond .lt 8, 3) := by decide +kernel
theorem dX6_noSheet_4 : decode cX6_noSheet 4 = .ok (.iload_n 0, 1) := by decide +kernel
theorem dX6_noSheet_5 : decode cX6_noSheet 5 = .ok (.iconst 4, 1) := by decide +kernel
theorem dX6_noSheet_6 : decode cX6_noSheet 6 = .ok (.if_icmp .lt 7, 3) := by decide +kernel
theorem dX6_noSheet_9 : decode cX6_noSheet 9 = .ok (.iconst 1, 1) := by decide +kernel
theorem dX6_noSheet_10 : decode cX6_noSheet 10 = .ok (.goto 4, 3) := by decide +kernel
theorem dX6_noSheet_13 : decode cX6_noSheet 13 = .ok (.iconst 0, 1) := by decide +kernel
theorem dX6_noSheet_14 : decode cX6_noSheet 14 = .ok (.ireturn, 1) := by decide +kernel
theorem dX6_noLane_0 : decode cX6_noLane 0 = .ok (.iload_n 0, 1) := by decide +kernel
theorem dX6_noLane_1 : decode cX6_noLane 1 = .ok (.ifCond .lt 8, 3) := by decide +kernel
theorem dX6_noLane_4 : decode cX6_noLane 4 = .ok (.iload_n 0, 1) := by decide +kernel
theorem dX6_noLane_5 : decode cX6_noLane 5 = .ok (.iconst 3, 1) := by decide +kernel
theorem dX6_noLane_6 : decode cX6_noLane 6 = .ok (.if_icmp .lt 7, 3) := by decide +kernel
theorem dX6_noLane_9 : decode cX6_noLane 9 = .ok (.iconst 1, 1) := by decide +kernel
theorem dX6_noLane_10 : decode cX6_noLane 10 = .ok (.goto 4, 3) := by decide +kernel
theorem dX6_noLane_13 : decode cX6_noLane 13 = .ok (.iconst 0, 1) := by decide +kernel
theorem dX6_noLane_14 : decode cX6_noLane 14 = .ok (.ireturn, 1) := by decide +kernel
theorem dX7_init_0 : decode cX7_init 0 = .ok (.aload_n 0, 1) := by decide +kernel
theorem dX7_init_1 : decode cX7_init 1 = .ok (.invokespecial 1, 3) := by decide +kernel
theorem dX7_init_4 : decode cX7_init 4 = .ok (.aload_n 0, 1) := by decide +kernel
theorem dX7_init_5 : decode cX7_init 5 = .ok (.iconst 4, 1) := by decide +kernel
theorem dX7_init_6 : decode cX7_init 6 = .ok (.newarray .int, 2) := by decide +kernel
theorem dX7_init_8 : decode cX7_init 8 = .ok (.dup, 1) := by decide +kernel
theorem dX7_init_9 : decode cX7_init 9 = .ok (.iconst 0, 1) := by decide +kernel
theorem dX7_init_10 : decode cX7_init 10 = .ok (.bipush (-9), 2) := by decide +kernel
theorem dX7_init_12 : decode cX7_init 12 = .ok (.iastore, 1) := by decide +kernel
theorem dX7_init_13 : decode cX7_init 13 = .ok (.dup, 1) := by decide +kernel
theorem dX7_init_14 : decode cX7_init 14 = .ok (.iconst 1, 1) := by decide +kernel
theorem dX7_init_15 : decode cX7_init 15 = .ok (.bipush (-9), 2) := by decide +kernel
theorem dX7_init_17 : decode cX7_init 17 = .ok (.iastore, 1) := by decide +kernel
theorem dX7_init_18 : decode cX7_init 18 = .ok (.dup, 1) := by decide +kernel
theorem dX7_init_19 : decode cX7_init 19 = .ok (.iconst 2, 1) := by decide +kernel
theorem dX7_init_20 : decode cX7_init 20 = .ok (.bipush (-9), 2) := by decide +kernel
theorem dX7_init_22 : decode cX7_init 22 = .ok (.iastore, 1) := by decide +kernel
theorem dX7_init_23 : decode cX7_init 23 = .ok (.dup, 1) := by decide +kernel
theorem dX7_init_24 : decode cX7_init 24 = .ok (.iconst 3, 1) := by decide +kernel
theorem dX7_init_25 : decode cX7_init 25 = .ok (.bipush (-9), 2) := by decide +kernel
theorem dX7_init_27 : decode cX7_init 27 = .ok (.iastore, 1) := by decide +kernel
theorem dX7_init_28 : decode cX7_init 28 = .ok (.putfield 9, 3) := by decide +kernel
theorem dX7_init_31 : decode cX7_init 31 = .ok (.aload_n 0, 1) := by decide +kernel
theorem dX7_init_32 : decode cX7_init 32 = .ok (.iconst 4, 1) := by decide +kernel
theorem dX7_init_33 : decode cX7_init 33 = .ok (.newarray .int, 2) := by decide +kernel
theorem dX7_init_35 : decode cX7_init 35 = .ok (.putfield 13, 3) := by decide +kernel
theorem dX7_init_38 : decode cX7_init 38 = .ok (.aload_n 0, 1) := by decide +kernel
theorem dX7_init_39 : decode cX7_init 39 = .ok (.sipush 240, 3) := by decide +kernel
theorem dX7_init_42 : decode cX7_init 42 = .ok (.newarray .int, 2) := by decide +kernel
theorem dX7_init_44 : decode cX7_init 44 = .ok (.putfield 16, 3) := by decide +kernel
theorem dX7_init_47 : decode cX7_init 47 = .ok (.aload_n 0, 1) := by decide +kernel
theorem dX7_init_48 : decode cX7_init 48 = .ok (.iconst 3, 1) := by decide +kernel
theorem dX7_init_49 : decode cX7_init 49 = .ok (.newarray .int, 2) := by decide +kernel
theorem dX7_init_51 : decode cX7_init 51 = .ok (.putfield 19, 3) := by decide +kernel
theorem dX7_init_54 : decode cX7_init 54 = .ok (.aload_n 0, 1) := by decide +kernel
theorem dX7_init_55 : decode cX7_init 55 = .ok (.bipush 8, 2) := by decide +kernel
theorem dX7_init_57 : decode cX7_init 57 = .ok (.newarray .boolean, 2) := by decide +kernel
theorem dX7_init_59 : decode cX7_init 59 = .ok (.putfield 22, 3) := by decide +kernel
theorem dX7_init_62 : decode cX7_init 62 = .ok (.aload_n 0, 1) := by decide +kernel
theorem dX7_init_63 : decode cX7_init 63 = .ok (.bipush 8, 2) := by decide +kernel
theorem dX7_init_65 : decode cX7_init 65 = .ok (.newarray .int, 2) := by decide +kernel
theorem dX7_init_67 : decode cX7_init 67 = .ok (.putfield 26, 3) := by decide +kernel
theorem dX7_init_70 : decode cX7_init 70 = .ok (.aload_n 0, 1) := by decide +kernel
theorem dX7_init_71 : decode cX7_init 71 = .ok (.bipush 8, 2) := by decide +kernel
theorem dX7_init_73 : decode cX7_init 73 = .ok (.newarray .int, 2) := by decide +kernel
theorem dX7_init_75 : decode cX7_init 75 = .ok (.putfield 29, 3) := by decide +kernel
theorem dX7_init_78 : decode cX7_init 78 = .ok (.aload_n 0, 1) := by decide +kernel
theorem dX7_init_79 : decode cX7_init 79 = .ok (.iconst 4, 1) := by decide +kernel
theorem dX7_init_80 : decode cX7_init 80 = .ok (.newarray .int, 2) := by decide +kernel
theorem dX7_init_82 : decode cX7_init 82 = .ok (.putfield 32, 3) := by decide +kernel
theorem dX7_init_85 : decode cX7_init 85 = .ok (.aload_n 0, 1) := by decide +kernel
theorem dX7_init_86 : decode cX7_init 86 = .ok (.iconst 4, 1) := by decide +kernel
theorem dX7_init_87 : decode cX7_init 87 = .ok (.newarray .int, 2) := by decide +kernel
theorem dX7_init_89 : decode cX7_init 89 = .ok (.putfield 35, 3) := by decide +kernel
theorem dX7_init_92 : decode cX7_init 92 = .ok (.aload_n 0, 1) := by decide +kernel
theorem dX7_init_93 : decode cX7_init 93 = .ok (.iconst 4, 1) := by decide +kernel
theorem dX7_init_94 : decode cX7_init 94 = .ok (.newarray .int, 2) := by decide +kernel
theorem dX7_init_96 : decode cX7_init 96 = .ok (.putfield 38, 3) := by decide +kernel
theorem dX7_init_99 : decode cX7_init 99 = .ok (.aload_n 0, 1) := by decide +kernel
theorem dX7_init_100 : decode cX7_init 100 = .ok (.iconst 3, 1) := by decide +kernel
theorem dX7_init_101 : decode cX7_init 101 = .ok (.newarray .int, 2) := by decide +kernel
theorem dX7_init_103 : decode cX7_init 103 = .ok (.putfield 41, 3) := by decide +kernel
theorem dX7_init_106 : decode cX7_init 106 = .ok (.aload_n 0, 1) := by decide +kernel
theorem dX7_init_107 : decode cX7_init 107 = .ok (.bipush 8, 2) := by decide +kernel
theorem dX7_init_109 : decode cX7_init 109 = .ok (.newarray .boolean, 2) := by decide +kernel
theorem dX7_init_111 : decode cX7_init 111 = .ok (.putfield 44, 3) := by decide +kernel
theorem dX7_init_114 : decode cX7_init 114 = .ok (.aload_n 0, 1) := by decide +kernel
theorem dX7_init_115 : decode cX7_init 115 = .ok (.bipush 12, 2) := by decide +kernel
theorem dX7_init_117 : decode cX7_init 117 = .ok (.newarray .int, 2) := by decide +kernel
theorem dX7_init_119 : decode cX7_init 119 = .ok (.putfield 47, 3) := by decide +kernel
theorem dX7_init_122 : decode cX7_init 122 = .ok (.aload_n 0, 1) := by decide +kernel
theorem dX7_init_123 : decode cX7_init 123 = .ok (.iconst 4, 1) := by decide +kernel
theorem dX7_init_124 : decode cX7_init 124 = .ok (.newarray .int, 2) := by decide +kernel
theorem dX7_init_126 : decode cX7_init 126 = .ok (.putfield 50, 3) := by decide +kernel
theorem dX7_init_129 : decode cX7_init 129 = .ok (.aload_n 0, 1) := by decide +kernel
theorem dX7_init_130 : decode cX7_init 130 = .ok (.bipush 32, 2) := by decide +kernel
theorem dX7_init_132 : decode cX7_init 132 = .ok (.newarray .int, 2) := by decide +kernel
theorem dX7_init_134 : decode cX7_init 134 = .ok (.putfield 53, 3) := by decide +kernel
theorem dX7_init_137 : decode cX7_init 137 = .ok (.aload_n 0, 1) := by decide +kernel
theorem dX7_init_138 : decode cX7_init 138 = .ok (.sipush 729, 3) := by decide +kernel
theorem dX7_init_141 : decode cX7_init 141 = .ok (.newarray .int, 2) := by decide +kernel
theorem dX7_init_143 : decode cX7_init 143 = .ok (.putfield 56, 3) := by decide +kernel
theorem dX7_init_146 : decode cX7_init 146 = .ok (.aload_n 0, 1) := by decide +kernel
theorem dX7_init_147 : decode cX7_init 147 = .ok (.iconst 4, 1) := by decide +kernel
theorem dX7_init_148 : decode cX7_init 148 = .ok (.newarray .int, 2) := by decide +kernel
theorem dX7_init_150 : decode cX7_init 150 = .ok (.putfield 59, 3) := by decide +kernel
theorem dX7_init_153 : decode cX7_init 153 = .ok (.aload_n 0, 1) := by decide +kernel
theorem dX7_init_154 : decode cX7_init 154 = .ok (.bipush 8, 2) := by decide +kernel
theorem dX7_init_156 : decode cX7_init 156 = .ok (.newarray .int, 2) := by decide +kernel
theorem dX7_init_158 : decode cX7_init 158 = .ok (.putfield 62, 3) := by decide +kernel
theorem dX7_init_161 : decode cX7_init 161 = .ok (.aload_n 0, 1) := by decide +kernel
theorem dX7_init_162 : decode cX7_init 162 = .ok (.bipush 8, 2) := by decide +kernel
theorem dX7_init_164 : decode cX7_init 164 = .ok (.newarray .int, 2) := by decide +kernel
theorem dX7_init_166 : decode cX7_init 166 = .ok (.putfield 65, 3) := by decide +kernel
theorem dX7_init_169 : decode cX7_init 169 = .ok (.aload_n 0, 1) := by decide +kernel
theorem dX7_init_170 : decode cX7_init 170 = .ok (.bipush 8, 2) := by decide +kernel
theorem dX7_init_172 : decode cX7_init 172 = .ok (.newarray .int, 2) := by decide +kernel
theorem dX7_init_174 : decode cX7_init 174 = .ok (.putfield 68, 3) := by decide +kernel
theorem dX7_init_177 : decode cX7_init 177 = .ok (.return_, 1) := by decide +kernel
theorem dX7_fails_0 : decode cX7_fails 0 = .ok (.aload_n 0, 1) := by decide +kernel
theorem dX7_fails_1 : decode cX7_fails 1 = .ok (.iload_n 1, 1) := by decide +kernel
theorem dX7_fails_2 : decode cX7_fails 2 = .ok (.putfield 71, 3) := by decide +kernel
theorem dX7_fails_5 : decode cX7_fails 5 = .ok (.bipush (-10), 2) := by decide +kernel
theorem dX7_fails_7 : decode cX7_fails 7 = .ok (.iload_n 1, 1) := by decide +kernel
theorem dX7_fails_8 : decode cX7_fails 8 = .ok (.isub, 1) := by decide +kernel
theorem dX7_fails_9 : decode cX7_fails 9 = .ok (.ireturn, 1) := by decide +kernel
theorem dX7_lost_0 : decode cX7_lost 0 = .ok (.aload_n 0, 1) := by decide +kernel
theorem dX7_lost_1 : decode cX7_lost 1 = .ok (.iload_n 1, 1) := by decide +kernel
theorem dX7_lost_2 : decode cX7_lost 2 = .ok (.putfield 71, 3) := by decide +kernel
theorem dX7_lost_5 : decode cX7_lost 5 = .ok (.ldc2_w 75, 3) := by decide +kernel
theorem dX7_lost_8 : decode cX7_lost 8 = .ok (.lreturn, 1) := by decide +kernel
theorem dX7_within_0 : decode cX7_within 0 = .ok (.iload_n 0, 1) := by decide +kernel
theorem dX7_within_1 : decode cX7_within 1 = .ok (.iload_n 1, 1) := by decide +kernel
theorem dX7_within_2 : decode cX7_within 2 = .ok (.if_icmp .lt 12, 3) := by decide +kernel
theorem dX7_within_5 : decode cX7_within 5 = .ok (.iload_n 0, 1) := by decide +kernel
theorem dX7_within_6 : decode cX7_within 6 = .ok (.iload_n 2, 1) := by decide +kernel
theorem dX7_within_7 : decode cX7_within 7 = .ok (.if_icmp .gt 7, 3) := by decide +kernel
theorem dX7_within_10 : decode cX7_within 10 = .ok (.iconst 1, 1) := by decide +kernel
theorem dX7_within_11 : decode cX7_within 11 = .ok (.goto 4, 3) := by decide +kernel
theorem dX7_within_14 : decode cX7_within 14 = .ok (.iconst 0, 1) := by decide +kernel
theorem dX7_within_15 : decode cX7_within 15 = .ok (.ireturn, 1) := by decide +kernel
theorem dX7_isSheet_0 : decode cX7_isSheet 0 = .ok (.iload_n 0, 1) := by decide +kernel
theorem dX7_isSheet_1 : decode cX7_isSheet 1 = .ok (.iconst 0, 1) := by decide +kernel
theorem dX7_isSheet_2 : decode cX7_isSheet 2 = .ok (.iconst 3, 1) := by decide +kernel
theorem dX7_isSheet_3 : decode cX7_isSheet 3 = .ok (.invokestatic 77, 3) := by decide +kernel
theorem dX7_isSheet_6 : decode cX7_isSheet 6 = .ok (.ireturn, 1) := by decide +kernel
theorem dX7_isSort_0 : decode cX7_isSort 0 = .ok (.iload_n 0, 1) := by decide +kernel
theorem dX7_isSort_1 : decode cX7_isSort 1 = .ok (.iconst 0, 1) := by decide +kernel
theorem dX7_isSort_2 : decode cX7_isSort 2 = .ok (.iconst 2, 1) := by decide +kernel
theorem dX7_isSort_3 : decode cX7_isSort 3 = .ok (.invokestatic 77, 3) := by decide +kernel
theorem dX7_isSort_6 : decode cX7_isSort 6 = .ok (.ireturn, 1) := by decide +kernel
theorem dX7_against_0 : decode cX7_against 0 = .ok (.aload_n 0, 1) := by decide +kernel
theorem dX7_against_1 : decode cX7_against 1 = .ok (.getfield 9, 3) := by decide +kernel
theorem dX7_against_4 : decode cX7_against 4 = .ok (.iload_n 1, 1) := by decide +kernel
theorem dX7_against_5 : decode cX7_against 5 = .ok (.iaload, 1) := by decide +kernel
theorem dX7_against_6 : decode cX7_against 6 = .ok (.bipush (-9), 2) := by decide +kernel
theorem dX7_against_8 : decode cX7_against 8 = .ok (.if_icmp .eq 15, 3) := by decide +kernel
theorem dX7_against_11 : decode cX7_against 11 = .ok (.aload_n 0, 1) := by decide +kernel
theorem dX7_against_12 : decode cX7_against 12 = .ok (.getfield 9, 3) := by decide +kernel
theorem dX7_against_15 : decode cX7_against 15 = .ok (.iload_n 1, 1) := by decide +kernel
theorem dX7_against_16 : decode cX7_against 16 = .ok (.iaload, 1) := by decide +kernel
theorem dX7_against_17 : decode cX7_against 17 = .ok (.iload_n 2, 1) := by decide +kernel
theorem dX7_against_18 : decode cX7_against 18 = .ok (.if_icmp .eq 5, 3) := by decide +kernel
theorem dX7_against_21 : decode cX7_against 21 = .ok (.iconst 2, 1) := by decide +kernel
theorem dX7_against_22 : decode cX7_against 22 = .ok (.ireturn, 1) := by decide +kernel
theorem dX7_against_23 : decode cX7_against 23 = .ok (.aload_n 0, 1) := by decide +kernel
theorem dX7_against_24 : decode cX7_against 24 = .ok (.getfield 9, 3) := by decide +kernel
theorem dX7_against_27 : decode cX7_against 27 = .ok (.iload_n 1, 1) := by decide +kernel
theorem dX7_against_28 : decode cX7_against 28 = .ok (.iaload, 1) := by decide +kernel
theorem dX7_against_29 : decode cX7_against 29 = .ok (.bipush (-9), 2) := by decide +kernel
theorem dX7_against_31 : decode cX7_against 31 = .ok (.if_icmp .ne 5, 3) := by decide +kernel
theorem dX7_against_34 : decode cX7_against 34 = .ok (.iconst 1, 1) := by decide +kernel
theorem dX7_against_35 : decode cX7_against 35 = .ok (.ireturn, 1) := by decide +kernel
theorem dX7_against_36 : decode cX7_against 36 = .ok (.iload 4, 2) := by decide +kernel
theorem dX7_against_38 : decode cX7_against 38 = .ok (.ifCond .ge 5, 3) := by decide +kernel
theorem dX7_against_41 : decode cX7_against 41 = .ok (.iconst 4, 1) := by decide +kernel
theorem dX7_against_42 : decode cX7_against 42 = .ok (.ireturn, 1) := by decide +kernel
theorem dX7_against_43 : decode cX7_against 43 = .ok (.iload_n 3, 1) := by decide +kernel
theorem dX7_against_44 : decode cX7_against 44 = .ok (.ifCond .lt 26, 3) := by decide +kernel
theorem dX7_against_47 : decode cX7_against 47 = .ok (.iload_n 3, 1) := by decide +kernel
theorem dX7_against_48 : decode cX7_against 48 = .ok (.aload_n 0, 1) := by decide +kernel
theorem dX7_against_49 : decode cX7_against 49 = .ok (.getfield 13, 3) := by decide +kernel
theorem dX7_against_52 : decode cX7_against 52 = .ok (.iload_n 1, 1) := by decide +kernel
theorem dX7_against_53 : decode cX7_against 53 = .ok (.iaload, 1) := by decide +kernel
theorem dX7_against_54 : decode cX7_against 54 = .ok (.if_icmp .gt 16, 3) := by decide +kernel
theorem dX7_against_57 : decode cX7_against 57 = .ok (.iload 4, 2) := by decide +kernel
theorem dX7_against_59 : decode cX7_against 59 = .ok (.aload_n 0, 1) := by decide +kernel
theorem dX7_against_60 : decode cX7_against 60 = .ok (.getfield 13, 3) := by decide +kernel
theorem dX7_against_63 : decode cX7_against 63 = .ok (.iload_n 1, 1) := by decide +kernel
theorem dX7_against_64 : decode cX7_against 64 = .ok (.iaload, 1) := by decide +kernel
theorem dX7_against_65 : decode cX7_against 65 = .ok (.iload_n 3, 1) := by decide +kernel
theorem dX7_against_66 : decode cX7_against 66 = .ok (.isub, 1) := by decide +kernel
theorem dX7_against_67 : decode cX7_against 67 = .ok (.if_icmp .le 7, 3) := by decide +kernel
theorem dX7_against_70 : decode cX7_against 70 = .ok (.iconst 3, 1) := by decide +kernel
theorem dX7_against_71 : decode cX7_against 71 = .ok (.goto 4, 3) := by decide +kernel
theorem dX7_against_74 : decode cX7_against 74 = .ok (.iconst 0, 1) := by decide +kernel
theorem dX7_against_75 : decode cX7_against 75 = .ok (.ireturn, 1) := by decide +kernel
theorem dX7_isPassenger_0 : decode cX7_isPassenger 0 = .ok (.iload_n 1, 1) := by decide +kernel
theorem dX7_isPassenger_1 : decode cX7_isPassenger 1 = .ok (.ifCond .lt 15, 3) := by decide +kernel
theorem dX7_isPassenger_4 : decode cX7_isPassenger 4 = .ok (.iload_n 1, 1) := by decide +kernel
theorem dX7_isPassenger_5 : decode cX7_isPassenger 5 = .ok (.aload_n 0, 1) := by decide +kernel
theorem dX7_isPassenger_6 : decode cX7_isPassenger 6 = .ok (.getfield 81, 3) := by decide +kernel
theorem dX7_isPassenger_9 : decode cX7_isPassenger 9 = .ok (.if_icmp .ge 7, 3) := by decide +kernel
theorem dX7_isPassenger_12 : decode cX7_isPassenger 12 = .ok (.iconst 1, 1) := by decide +kernel
theorem dX7_isPassenger_13 : decode cX7_isPassenger 13 = .ok (.goto 4, 3) := by decide +kernel
theorem dX7_isPassenger_16 : decode cX7_isPassenger 16 = .ok (.iconst 0, 1) := by decide +kernel
theorem dX7_isPassenger_17 : decode cX7_isPassenger 17 = .ok (.ireturn, 1) := by decide +kernel
theorem dX7_isMile_0 : decode cX7_isMile 0 = .ok (.iload_n 1, 1) := by decide +kernel
theorem dX7_isMile_1 : decode cX7_isMile 1 = .ok (.ifCond .lt 15, 3) := by decide +kernel
theorem dX7_isMile_4 : decode cX7_isMile 4 = .ok (.iload_n 1, 1) := by decide +kernel
theorem dX7_isMile_5 : decode cX7_isMile 5 = .ok (.aload_n 0, 1) := by decide +kernel
theorem dX7_isMile_6 : decode cX7_isMile 6 = .ok (.getfield 84, 3) := by decide +kernel
theorem dX7_isMile_9 : decode cX7_isMile 9 = .ok (.if_icmp .ge 7, 3) := by decide +kernel
theorem dX7_isMile_12 : decode cX7_isMile 12 = .ok (.iconst 1, 1) := by decide +kernel
theorem dX7_isMile_13 : decode cX7_isMile 13 = .ok (.goto 4, 3) := by decide +kernel
theorem dX7_isMile_16 : decode cX7_isMile 16 = .ok (.iconst 0, 1) := by decide +kernel
theorem dX7_isMile_17 : decode cX7_isMile 17 = .ok (.ireturn, 1) := by decide +kernel
theorem dX7_digit_0 : decode cX7_digit 0 = .ok (.aload_n 0, 1) := by decide +kernel
theorem dX7_digit_1 : decode cX7_digit 1 = .ok (.getfield 87, 3) := by decide +kernel
theorem dX7_digit_4 : decode cX7_digit 4 = .ok (.iload_n 1, 1) := by decide +kernel
theorem dX7_digit_5 : decode cX7_digit 5 = .ok (.if_icmp .ge 26, 3) := by decide +kernel
theorem dX7_digit_8 : decode cX7_digit 8 = .ok (.aload_n 0, 1) := by decide +kernel
theorem dX7_digit_9 : decode cX7_digit 9 = .ok (.getfield 16, 3) := by decide +kernel
theorem dX7_digit_12 : decode cX7_digit 12 = .ok (.aload_n 0, 1) := by decide +kernel
theorem dX7_digit_13 : decode cX7_digit 13 = .ok (.getfield 87, 3) := by decide +kernel
theorem dX7_digit_16 : decode cX7_digit 16 = .ok (.iaload, 1) := by decide +kernel
theorem dX7_digit_17 : decode cX7_digit 17 = .ok (.bipush 48, 2) := by decide +kernel
theorem dX7_digit_19 : decode cX7_digit 19 = .ok (.iload_n 2, 1) := by decide +kernel
theorem dX7_digit_20 : decode cX7_digit 20 = .ok (.iadd, 1) := by decide +kernel
theorem dX7_digit_21 : decode cX7_digit 21 = .ok (.bipush 48, 2) := by decide +kernel
theorem dX7_digit_23 : decode cX7_digit 23 = .ok (.iload_n 3, 1) := by decide +kernel
theorem dX7_digit_24 : decode cX7_digit 24 = .ok (.iadd, 1) := by decide +kernel
theorem dX7_digit_25 : decode cX7_digit 25 = .ok (.invokestatic 77, 3) := by decide +kernel
theorem dX7_digit_28 : decode cX7_digit 28 = .ok (.ifCond .ne 6, 3) := by decide +kernel
theorem dX7_digit_31 : decode cX7_digit 31 = .ok (.bipush (-9), 2) := by decide +kernel
theorem dX7_digit_33 : decode cX7_digit 33 = .ok (.ireturn, 1) := by decide +kernel
theorem dX7_digit_34 : decode cX7_digit 34 = .ok (.aload_n 0, 1) := by decide +kernel
theorem dX7_digit_35 : decode cX7_digit 35 = .ok (.dup, 1) := by decide +kernel
theorem dX7_digit_36 : decode cX7_digit 36 = .ok (.getfield 87, 3) := by decide +kernel
theorem dX7_digit_39 : decode cX7_digit 39 = .ok (.iconst 1, 1) := by decide +kernel
theorem dX7_digit_40 : decode cX7_digit 40 = .ok (.iadd, 1) := by decide +kernel
theorem dX7_digit_41 : decode cX7_digit 41 = .ok (.putfield 87, 3) := by decide +kernel
theorem dX7_digit_44 : decode cX7_digit 44 = .ok (.aload_n 0, 1) := by decide +kernel
theorem dX7_digit_45 : decode cX7_digit 45 = .ok (.getfield 16, 3) := by decide +kernel
theorem dX7_digit_48 : decode cX7_digit 48 = .ok (.aload_n 0, 1) := by decide +kernel
theorem dX7_digit_49 : decode cX7_digit 49 = .ok (.getfield 87, 3) := by decide +kernel
theorem dX7_digit_52 : decode cX7_digit 52 = .ok (.iconst 1, 1) := by decide +kernel
theorem dX7_digit_53 : decode cX7_digit 53 = .ok (.isub, 1) := by decide +kernel
theorem dX7_digit_54 : decode cX7_digit 54 = .ok (.iaload, 1) := by decide +kernel
theorem dX7_digit_55 : decode cX7_digit 55 = .ok (.bipush 48, 2) := by decide +kernel
theorem dX7_digit_57 : decode cX7_digit 57 = .ok (.isub, 1) := by decide +kernel
theorem dX7_digit_58 : decode cX7_digit 58 = .ok (.ireturn, 1) := by decide +kernel
theorem dX7_isSign_0 : decode cX7_isSign 0 = .ok (.aload_n 0, 1) := by decide +kernel
theorem dX7_isSign_1 : decode cX7_isSign 1 = .ok (.getfield 87, 3) := by decide +kernel
theorem dX7_isSign_4 : decode cX7_isSign 4 = .ok (.iload_n 1, 1) := by decide +kernel
theorem dX7_isSign_5 : decode cX7_isSign 5 = .ok (.if_icmp .ge 16, 3) := by decide +kernel
theorem dX7_isSign_8 : decode cX7_isSign 8 = .ok (.aload_n 0, 1) := by decide +kernel
theorem dX7_isSign_9 : decode cX7_isSign 9 = .ok (.getfield 16, 3) := by decide +kernel
theorem dX7_isSign_12 : decode cX7_isSign 12 = .ok (.aload_n 0, 1) := by decide +kernel
theorem dX7_isSign_13 : decode cX7_isSign 13 = .ok (.getfield 87, 3) := by decide +kernel
theorem dX7_isSign_16 : decode cX7_isSign 16 = .ok (.iaload, 1) := by decide +kernel
theorem dX7_isSign_17 : decode cX7_isSign 17 = .ok (.iload_n 2, 1) := by decide +kernel
theorem dX7_isSign_18 : decode cX7_isSign 18 = .ok (.if_icmp .eq 5, 3) := by decide +kernel
theorem dX7_isSign_21 : decode cX7_isSign 21 = .ok (.iconst 0, 1) := by decide +kernel
theorem dX7_isSign_22 : decode cX7_isSign 22 = .ok (.ireturn, 1) := by decide +kernel
theorem dX7_isSign_23 : decode cX7_isSign 23 = .ok (.aload_n 0, 1) := by decide +kernel
theorem dX7_isSign_24 : decode cX7_isSign 24 = .ok (.dup, 1) := by decide +kernel
theorem dX7_isSign_25 : decode cX7_isSign 25 = .ok (.getfield 87, 3) := by decide +kernel
theorem dX7_isSign_28 : decode cX7_isSign 28 = .ok (.iconst 1, 1) := by decide +kernel
theorem dX7_isSign_29 : decode cX7_isSign 29 = .ok (.iadd, 1) := by decide +kernel
theorem dX7_isSign_30 : decode cX7_isSign 30 = .ok (.putfield 87, 3) := by decide +kernel
theorem dX7_isSign_33 : decode cX7_isSign 33 = .ok (.iconst 1, 1) := by decide +kernel
theorem dX7_isSign_34 : decode cX7_isSign 34 = .ok (.ireturn, 1) := by decide +kernel
theorem dX7_line_0 : decode cX7_line 0 = .ok (.aload_n 0, 1) := by decide +kernel
theorem dX7_line_1 : decode cX7_line 1 = .ok (.iconst 0, 1) := by decide +kernel
theorem dX7_line_2 : decode cX7_line 2 = .ok (.putfield 71, 3) := by decide +kernel
theorem dX7_line_5 : decode cX7_line 5 = .ok (.iload_n 1, 1) := by decide +kernel
theorem dX7_line_6 : decode cX7_line 6 = .ok (.invokestatic 90, 3) := by decide +kernel
theorem dX7_line_9 : decode cX7_line 9 = .ok (.ifCond .ne 5, 3) := by decide +kernel
theorem dX7_line_12 : decode cX7_line 12 = .ok (.iconst (-1), 1) := by decide +kernel
theorem dX7_line_13 : decode cX7_line 13 = .ok (.ireturn, 1) := by decide +kernel
theorem dX7_line_14 : decode cX7_line 14 = .ok (.iload_n 2, 1) := by decide +kernel
theorem dX7_line_15 : decode cX7_line 15 = .ok (.invokestatic 94, 3) := by decide +kernel
theorem dX7_line_18 : decode cX7_line 18 = .ok (.ifCond .ne 6, 3) := by decide +kernel
theorem dX7_line_21 : decode cX7_line 21 = .ok (.bipush (-2), 2) := by decide +kernel
theorem dX7_line_23 : decode cX7_line 23 = .ok (.ireturn, 1) := by decide +kernel
theorem dX7_line_24 : decode cX7_line 24 = .ok (.aload_n 0, 1) := by decide +kernel
theorem dX7_line_25 : decode cX7_line 25 = .ok (.iload_n 1, 1) := by decide +kernel
theorem dX7_line_26 : decode cX7_line 26 = .ok (.iload_n 2, 1) := by decide +kernel
theorem dX7_line_27 : decode cX7_line 27 = .ok (.iload_n 3, 1) := by decide +kernel
theorem dX7_line_28 : decode cX7_line 28 = .ok (.iload 4, 2) := by decide +kernel
theorem dX7_line_30 : decode cX7_line 30 = .ok (.invokevirtual 97, 3) := by decide +kernel
theorem dX7_line_33 : decode cX7_line 33 = .ok (.istore 5, 2) := by decide +kernel
theorem dX7_line_35 : decode cX7_line 35 = .ok (.iload 5, 2) := by decide +kernel
theorem dX7_line_37 : decode cX7_line 37 = .ok (.ifCond .eq 10, 3) := by decide +kernel
theorem dX7_line_40 : decode cX7_line 40 = .ok (.aload_n 0, 1) := by decide +kernel
theorem dX7_line_41 : decode cX7_line 41 = .ok (.iload 5, 2) := by decide +kernel
theorem dX7_line_43 : decode cX7_line 43 = .ok (.invokevirtual 101, 3) := by decide +kernel
theorem dX7_line_46 : decode cX7_line 46 = .ok (.ireturn, 1) := by decide +kernel
theorem dX7_line_47 : decode cX7_line 47 = .ok (.bipush 60, 2) := by decide +kernel
theorem dX7_line_49 : decode cX7_line 49 = .ok (.iload_n 1, 1) := by decide +kernel
theorem dX7_line_50 : decode cX7_line 50 = .ok (.imul, 1) := by decide +kernel
theorem dX7_line_51 : decode cX7_line 51 = .ok (.iload_n 3, 1) := by decide +kernel
theorem dX7_line_52 : decode cX7_line 52 = .ok (.iadd, 1) := by decide +kernel
theorem dX7_line_53 : decode cX7_line 53 = .ok (.istore 6, 2) := by decide +kernel
theorem dX7_line_55 : decode cX7_line 55 = .ok (.aload_n 0, 1) := by decide +kernel
theorem dX7_line_56 : decode cX7_line 56 = .ok (.iload 6, 2) := by decide +kernel
theorem dX7_line_58 : decode cX7_line 58 = .ok (.putfield 87, 3) := by decide +kernel
theorem dX7_line_61 : decode cX7_line 61 = .ok (.aload_n 0, 1) := by decide +kernel
theorem dX7_line_62 : decode cX7_line 62 = .ok (.iload 6, 2) := by decide +kernel
theorem dX7_line_64 : decode cX7_line 64 = .ok (.iload 4, 2) := by decide +kernel
theorem dX7_line_66 : decode cX7_line 66 = .ok (.iadd, 1) := by decide +kernel
theorem dX7_line_67 : decode cX7_line 67 = .ok (.invokevirtual 105, 3) := by decide +kernel
theorem dX7_line_70 : decode cX7_line 70 = .ok (.ifCond .ne 14, 3) := by decide +kernel
theorem dX7_line_73 : decode cX7_line 73 = .ok (.bipush (-100), 2) := by decide +kernel
theorem dX7_line_75 : decode cX7_line 75 = .ok (.aload_n 0, 1) := by decide +kernel
theorem dX7_line_76 : decode cX7_line 76 = .ok (.getfield 87, 3) := by decide +kernel
theorem dX7_line_79 : decode cX7_line 79 = .ok (.iload 6, 2) := by decide +kernel
theorem dX7_line_81 : decode cX7_line 81 = .ok (.isub, 1) := by decide +kernel
theorem dX7_line_82 : decode cX7_line 82 = .ok (.isub, 1) := by decide +kernel
theorem dX7_line_83 : decode cX7_line 83 = .ok (.ireturn, 1) := by decide +kernel
theorem dX7_line_84 : decode cX7_line 84 = .ok (.aload_n 0, 1) := by decide +kernel
theorem dX7_line_85 : decode cX7_line 85 = .ok (.invokevirtual 108, 3) := by decide +kernel
theorem dX7_line_88 : decode cX7_line 88 = .ok (.aload_n 0, 1) := by decide +kernel
theorem dX7_line_89 : decode cX7_line 89 = .ok (.getfield 81, 3) := by decide +kernel
theorem dX7_line_92 : decode cX7_line 92 = .ok (.ireturn, 1) := by decide +kernel
theorem dX7_takeLine_0 : decode cX7_takeLine 0 = .ok (.iconst 0, 1) := by decide +kernel
theorem dX7_takeLine_1 : decode cX7_takeLine 1 = .ok (.istore_n 1, 1) := by decide +kernel
theorem dX7_takeLine_2 : decode cX7_takeLine 2 = .ok (.iload_n 1, 1) := by decide +kernel
theorem dX7_takeLine_3 : decode cX7_takeLine 3 = .ok (.iconst 3, 1) := by decide +kernel
theorem dX7_takeLine_4 : decode cX7_takeLine 4 = .ok (.if_icmp .ge 21, 3) := by decide +kernel
theorem dX7_takeLine_7 : decode cX7_takeLine 7 = .ok (.aload_n 0, 1) := by decide +kernel
theorem dX7_takeLine_8 : decode cX7_takeLine 8 = .ok (.getfield 19, 3) := by decide +kernel
theorem dX7_takeLine_11 : decode cX7_takeLine 11 = .ok (.iload_n 1, 1) := by decide +kernel
theorem dX7_takeLine_12 : decode cX7_takeLine 12 = .ok (.aload_n 0, 1) := by decide +kernel
theorem dX7_takeLine_13 : decode cX7_takeLine 13 = .ok (.getfield 41, 3) := by decide +kernel
theorem dX7_takeLine_16 : decode cX7_takeLine 16 = .ok (.iload_n 1, 1) := by decide +kernel
theorem dX7_takeLine_17 : decode cX7_takeLine 17 = .ok (.iaload, 1) := by decide +kernel
theorem dX7_takeLine_18 : decode cX7_takeLine 18 = .ok (.iastore, 1) := by decide +kernel
theorem dX7_takeLine_19 : decode cX7_takeLine 19 = .ok (.iinc 1 1, 3) := by decide +kernel
theorem dX7_takeLine_22 : decode cX7_takeLine 22 = .ok (.goto (-20), 3) := by decide +kernel
theorem dX7_takeLine_25 : decode cX7_takeLine 25 = .ok (.aload_n 0, 1) := by decide +kernel
theorem dX7_takeLine_26 : decode cX7_takeLine 26 = .ok (.aload_n 0, 1) := by decide +kernel
theorem dX7_takeLine_27 : decode cX7_takeLine 27 = .ok (.getfield 111, 3) := by decide +kernel
theorem dX7_takeLine_30 : decode cX7_takeLine 30 = .ok (.putfield 84, 3) := by decide +kernel
theorem dX7_takeLine_33 : decode cX7_takeLine 33 = .ok (.iconst 0, 1) := by decide +kernel
theorem dX7_takeLine_34 : decode cX7_takeLine 34 = .ok (.istore_n 1, 1) := by decide +kernel
theorem dX7_takeLine_35 : decode cX7_takeLine 35 = .ok (.iload_n 1, 1) := by decide +kernel
theorem dX7_takeLine_36 : decode cX7_takeLine 36 = .ok (.bipush 8, 2) := by decide +kernel
theorem dX7_takeLine_38 : decode cX7_takeLine 38 = .ok (.if_icmp .ge 53, 3) := by decide +kernel
theorem dX7_takeLine_41 : decode cX7_takeLine 41 = .ok (.aload_n 0, 1) := by decide +kernel
theorem dX7_takeLine_42 : decode cX7_takeLine 42 = .ok (.getfield 22, 3) := by decide +kernel
theorem dX7_takeLine_45 : decode cX7_takeLine 45 = .ok (.iload_n 1, 1) := by decide +kernel
theorem dX7_takeLine_46 : decode cX7_takeLine 46 = .ok (.iload_n 1, 1) := by decide +kernel
theorem dX7_takeLine_47 : decode cX7_takeLine 47 = .ok (.aload_n 0, 1) := by decide +kernel
theorem dX7_takeLine_48 : decode cX7_takeLine 48 = .ok (.getfield 84, 3) := by decide +kernel
theorem dX7_takeLine_51 : decode cX7_takeLine 51 = .ok (.if_icmp .ge 16, 3) := by decide +kernel
theorem dX7_takeLine_54 : decode cX7_takeLine 54 = .ok (.aload_n 0, 1) := by decide +kernel
theorem dX7_takeLine_55 : decode cX7_takeLine 55 = .ok (.getfield 44, 3) := by decide +kernel
theorem dX7_takeLine_58 : decode cX7_takeLine 58 = .ok (.iload_n 1, 1) := by decide +kernel
theorem dX7_takeLine_59 : decode cX7_takeLine 59 = .ok (.baload, 1) := by decide +kernel
theorem dX7_takeLine_60 : decode cX7_takeLine 60 = .ok (.ifCond .eq 7, 3) := by decide +kernel
theorem dX7_takeLine_63 : decode cX7_takeLine 63 = .ok (.iconst 1, 1) := by decide +kernel
theorem dX7_takeLine_64 : decode cX7_takeLine 64 = .ok (.goto 4, 3) := by decide +kernel
theorem dX7_takeLine_67 : decode cX7_takeLine 67 = .ok (.iconst 0, 1) := by decide +kernel
theorem dX7_takeLine_68 : decode cX7_takeLine 68 = .ok (.bastore, 1) := by decide +kernel
theorem dX7_takeLine_69 : decode cX7_takeLine 69 = .ok (.aload_n 0, 1) := by decide +kernel
theorem dX7_takeLine_70 : decode cX7_takeLine 70 = .ok (.getfield 26, 3) := by decide +kernel
theorem dX7_takeLine_73 : decode cX7_takeLine 73 = .ok (.iload_n 1, 1) := by decide +kernel
theorem dX7_takeLine_74 : decode cX7_takeLine 74 = .ok (.bipush (-9), 2) := by decide +kernel
theorem dX7_takeLine_76 : decode cX7_takeLine 76 = .ok (.iastore, 1) := by decide +kernel
theorem dX7_takeLine_77 : decode cX7_takeLine 77 = .ok (.aload_n 0, 1) := by decide +kernel
theorem dX7_takeLine_78 : decode cX7_takeLine 78 = .ok (.getfield 29, 3) := by decide +kernel
theorem dX7_takeLine_81 : decode cX7_takeLine 81 = .ok (.iload_n 1, 1) := by decide +kernel
theorem dX7_takeLine_82 : decode cX7_takeLine 82 = .ok (.bipush (-9), 2) := by decide +kernel
theorem dX7_takeLine_84 : decode cX7_takeLine 84 = .ok (.iastore, 1) := by decide +kernel
theorem dX7_takeLine_85 : decode cX7_takeLine 85 = .ok (.iinc 1 1, 3) := by decide +kernel
theorem dX7_takeLine_88 : decode cX7_takeLine 88 = .ok (.goto (-53), 3) := by decide +kernel
theorem dX7_takeLine_91 : decode cX7_takeLine 91 = .ok (.aload_n 0, 1) := by decide +kernel
theorem dX7_takeLine_92 : decode cX7_takeLine 92 = .ok (.aload_n 0, 1) := by decide +kernel
theorem dX7_takeLine_93 : decode cX7_takeLine 93 = .ok (.getfield 114, 3) := by decide +kernel
theorem dX7_takeLine_96 : decode cX7_takeLine 96 = .ok (.putfield 81, 3) := by decide +kernel
theorem dX7_takeLine_99 : decode cX7_takeLine 99 = .ok (.iconst 0, 1) := by decide +kernel
theorem dX7_takeLine_100 : decode cX7_takeLine 100 = .ok (.istore_n 1, 1) := by decide +kernel
theorem dX7_takeLine_101 : decode cX7_takeLine 101 = .ok (.iload_n 1, 1) := by decide +kernel
theorem dX7_takeLine_102 : decode cX7_takeLine 102 = .ok (.aload_n 0, 1) := by decide +kernel
theorem dX7_takeLine_103 : decode cX7_takeLine 103 = .ok (.getfield 81, 3) := by decide +kernel
theorem dX7_takeLine_106 : decode cX7_takeLine 106 = .ok (.if_icmp .ge 55, 3) := by decide +kernel
theorem dX7_takeLine_109 : decode cX7_takeLine 109 = .ok (.aload_n 0, 1) := by decide +kernel
theorem dX7_takeLine_110 : decode cX7_takeLine 110 = .ok (.getfield 32, 3) := by decide +kernel
theorem dX7_takeLine_113 : decode cX7_takeLine 113 = .ok (.iload_n 1, 1) := by decide +kernel
theorem dX7_takeLine_114 : decode cX7_takeLine 114 = .ok (.aload_n 0, 1) := by decide +kernel
theorem dX7_takeLine_115 : decode cX7_takeLine 115 = .ok (.getfield 47, 3) := by decide +kernel
theorem dX7_takeLine_118 : decode cX7_takeLine 118 = .ok (.iconst 3, 1) := by decide +kernel
theorem dX7_takeLine_119 : decode cX7_takeLine 119 = .ok (.iload_n 1, 1) := by decide +kernel
theorem dX7_takeLine_120 : decode cX7_takeLine 120 = .ok (.imul, 1) := by decide +kernel
theorem dX7_takeLine_121 : decode cX7_takeLine 121 = .ok (.iaload, 1) := by decide +kernel
theorem dX7_takeLine_122 : decode cX7_takeLine 122 = .ok (.iastore, 1) := by decide +kernel
theorem dX7_takeLine_123 : decode cX7_takeLine 123 = .ok (.aload_n 0, 1) := by decide +kernel
theorem dX7_takeLine_124 : decode cX7_takeLine 124 = .ok (.getfield 35, 3) := by decide +kernel
theorem dX7_takeLine_127 : decode cX7_takeLine 127 = .ok (.iload_n 1, 1) := by decide +kernel
theorem dX7_takeLine_128 : decode cX7_takeLine 128 = .ok (.aload_n 0, 1) := by decide +kernel
theorem dX7_takeLine_129 : decode cX7_takeLine 129 = .ok (.getfield 47, 3) := by decide +kernel
theorem dX7_takeLine_132 : decode cX7_takeLine 132 = .ok (.iconst 3, 1) := by decide +kernel
theorem dX7_takeLine_133 : decode cX7_takeLine 133 = .ok (.iload_n 1, 1) := by decide +kernel
theorem dX7_takeLine_134 : decode cX7_takeLine 134 = .ok (.imul, 1) := by decide +kernel
theorem dX7_takeLine_135 : decode cX7_takeLine 135 = .ok (.iconst 1, 1) := by decide +kernel
theorem dX7_takeLine_136 : decode cX7_takeLine 136 = .ok (.iadd, 1) := by decide +kernel
theorem dX7_takeLine_137 : decode cX7_takeLine 137 = .ok (.iaload, 1) := by decide +kernel
theorem dX7_takeLine_138 : decode cX7_takeLine 138 = .ok (.iastore, 1) := by decide +kernel
theorem dX7_takeLine_139 : decode cX7_takeLine 139 = .ok (.aload_n 0, 1) := by decide +kernel
theorem dX7_takeLine_140 : decode cX7_takeLine 140 = .ok (.getfield 38, 3) := by decide +kernel
theorem dX7_takeLine_143 : decode cX7_takeLine 143 = .ok (.iload_n 1, 1) := by decide +kernel
theorem dX7_takeLine_144 : decode cX7_takeLine 144 = .ok (.aload_n 0, 1) := by decide +kernel
theorem dX7_takeLine_145 : decode cX7_takeLine 145 = .ok (.getfield 47, 3) := by decide +kernel
theorem dX7_takeLine_148 : decode cX7_takeLine 148 = .ok (.iconst 3, 1) := by decide +kernel
theorem dX7_takeLine_149 : decode cX7_takeLine 149 = .ok (.iload_n 1, 1) := by decide +kernel
theorem dX7_takeLine_150 : decode cX7_takeLine 150 = .ok (.imul, 1) := by decide +kernel
theorem dX7_takeLine_151 : decode cX7_takeLine 151 = .ok (.iconst 2, 1) := by decide +kernel
theorem dX7_takeLine_152 : decode cX7_takeLine 152 = .ok (.iadd, 1) := by decide +kernel
theorem dX7_takeLine_153 : decode cX7_takeLine 153 = .ok (.iaload, 1) := by decide +kernel
theorem dX7_takeLine_154 : decode cX7_takeLine 154 = .ok (.iastore, 1) := by decide +kernel
theorem dX7_takeLine_155 : decode cX7_takeLine 155 = .ok (.iinc 1 1, 3) := by decide +kernel
theorem dX7_takeLine_158 : decode cX7_takeLine 158 = .ok (.goto (-57), 3) := by decide +kernel
theorem dX7_takeLine_161 : decode cX7_takeLine 161 = .ok (.aload_n 0, 1) := by decide +kernel
theorem dX7_takeLine_162 : decode cX7_takeLine 162 = .ok (.bipush 20, 2) := by decide +kernel
theorem dX7_takeLine_164 : decode cX7_takeLine 164 = .ok (.putfield 117, 3) := by decide +kernel
theorem dX7_takeLine_167 : decode cX7_takeLine 167 = .ok (.aload_n 0, 1) := by decide +kernel
theorem dX7_takeLine_168 : decode cX7_takeLine 168 = .ok (.bipush 40, 2) := by decide +kernel
theorem dX7_takeLine_170 : decode cX7_takeLine 170 = .ok (.putfield 120, 3) := by decide +kernel
theorem dX7_takeLine_173 : decode cX7_takeLine 173 = .ok (.aload_n 0, 1) := by decide +kernel
theorem dX7_takeLine_174 : decode cX7_takeLine 174 = .ok (.iconst 0, 1) := by decide +kernel
theorem dX7_takeLine_175 : decode cX7_takeLine 175 = .ok (.putfield 123, 3) := by decide +kernel
theorem dX7_takeLine_178 : decode cX7_takeLine 178 = .ok (.return_, 1) := by decide +kernel
theorem dX7_readLine_0 : decode cX7_readLine 0 = .ok (.aload_n 0, 1) := by decide +kernel
theorem dX7_readLine_1 : decode cX7_readLine 1 = .ok (.iconst 0, 1) := by decide +kernel
theorem dX7_readLine_2 : decode cX7_readLine 2 = .ok (.putfield 111, 3) := by decide +kernel
theorem dX7_readLine_5 : decode cX7_readLine 5 = .ok (.aload_n 0, 1) := by decide +kernel
theorem dX7_readLine_6 : decode cX7_readLine 6 = .ok (.iconst 0, 1) := by decide +kernel
theorem dX7_readLine_7 : decode cX7_readLine 7 = .ok (.putfield 114, 3) := by decide +kernel
theorem dX7_readLine_10 : decode cX7_readLine 10 = .ok (.aload_n 0, 1) := by decide +kernel
theorem dX7_readLine_11 : decode cX7_readLine 11 = .ok (.iload_n 1, 1) := by decide +kernel
theorem dX7_readLine_12 : decode cX7_readLine 12 = .ok (.bipush 114, 2) := by decide +kernel
theorem dX7_readLine_14 : decode cX7_readLine 14 = .ok (.invokevirtual 126, 3) := by decide +kernel
theorem dX7_readLine_17 : decode cX7_readLine 17 = .ok (.ifCond .ne 5, 3) := by decide +kernel
theorem dX7_readLine_20 : decode cX7_readLine 20 = .ok (.iconst 0, 1) := by decide +kernel
theorem dX7_readLine_21 : decode cX7_readLine 21 = .ok (.ireturn, 1) := by decide +kernel
theorem dX7_readLine_22 : decode cX7_readLine 22 = .ok (.iconst 0, 1) := by decide +kernel
theorem dX7_readLine_23 : decode cX7_readLine 23 = .ok (.istore_n 2, 1) := by decide +kernel
theorem dX7_readLine_24 : decode cX7_readLine 24 = .ok (.iload_n 2, 1) := by decide +kernel
theorem dX7_readLine_25 : decode cX7_readLine 25 = .ok (.iconst 3, 1) := by decide +kernel
theorem dX7_readLine_26 : decode cX7_readLine 26 = .ok (.if_icmp .ge 35, 3) := by decide +kernel
theorem dX7_readLine_29 : decode cX7_readLine 29 = .ok (.aload_n 0, 1) := by decide +kernel
theorem dX7_readLine_30 : decode cX7_readLine 30 = .ok (.getfield 41, 3) := by decide +kernel
theorem dX7_readLine_33 : decode cX7_readLine 33 = .ok (.iload_n 2, 1) := by decide +kernel
theorem dX7_readLine_34 : decode cX7_readLine 34 = .ok (.aload_n 0, 1) := by decide +kernel
theorem dX7_readLine_35 : decode cX7_readLine 35 = .ok (.iload_n 1, 1) := by decide +kernel
theorem dX7_readLine_36 : decode cX7_readLine 36 = .ok (.iconst 0, 1) := by decide +kernel
theorem dX7_readLine_37 : decode cX7_readLine 37 = .ok (.iconst 4, 1) := by decide +kernel
theorem dX7_readLine_38 : decode cX7_readLine 38 = .ok (.invokevirtual 130, 3) := by decide +kernel
theorem dX7_readLine_41 : decode cX7_readLine 41 = .ok (.iastore, 1) := by decide +kernel
theorem dX7_readLine_42 : decode cX7_readLine 42 = .ok (.aload_n 0, 1) := by decide +kernel
theorem dX7_readLine_43 : decode cX7_readLine 43 = .ok (.getfield 41, 3) := by decide +kernel
theorem dX7_readLine_46 : decode cX7_readLine 46 = .ok (.iload_n 2, 1) := by decide +kernel
theorem dX7_readLine_47 : decode cX7_readLine 47 = .ok (.iaload, 1) := by decide +kernel
theorem dX7_readLine_48 : decode cX7_readLine 48 = .ok (.bipush (-9), 2) := by decide +kernel
theorem dX7_readLine_50 : decode cX7_readLine 50 = .ok (.if_icmp .ne 5, 3) := by decide +kernel
theorem dX7_readLine_53 : decode cX7_readLine 53 = .ok (.iconst 0, 1) := by decide +kernel
theorem dX7_readLine_54 : decode cX7_readLine 54 = .ok (.ireturn, 1) := by decide +kernel
theorem dX7_readLine_55 : decode cX7_readLine 55 = .ok (.iinc 2 1, 3) := by decide +kernel
theorem dX7_readLine_58 : decode cX7_readLine 58 = .ok (.goto (-34), 3) := by decide +kernel
theorem dX7_readLine_61 : decode cX7_readLine 61 = .ok (.aload_n 0, 1) := by decide +kernel
theorem dX7_readLine_62 : decode cX7_readLine 62 = .ok (.iload_n 1, 1) := by decide +kernel
theorem dX7_readLine_63 : decode cX7_readLine 63 = .ok (.bipush 59, 2) := by decide +kernel
theorem dX7_readLine_65 : decode cX7_readLine 65 = .ok (.invokevirtual 126, 3) := by decide +kernel
theorem dX7_readLine_68 : decode cX7_readLine 68 = .ok (.ifCond .ne 5, 3) := by decide +kernel
theorem dX7_readLine_71 : decode cX7_readLine 71 = .ok (.iconst 0, 1) := by decide +kernel
theorem dX7_readLine_72 : decode cX7_readLine 72 = .ok (.ireturn, 1) := by decide +kernel
theorem dX7_readLine_73 : decode cX7_readLine 73 = .ok (.aload_n 0, 1) := by decide +kernel
theorem dX7_readLine_74 : decode cX7_readLine 74 = .ok (.getfield 111, 3) := by decide +kernel
theorem dX7_readLine_77 : decode cX7_readLine 77 = .ok (.bipush 8, 2) := by decide +kernel
theorem dX7_readLine_79 : decode cX7_readLine 79 = .ok (.if_icmp .ge 90, 3) := by decide +kernel
theorem dX7_readLine_82 : decode cX7_readLine 82 = .ok (.aload_n 0, 1) := by decide +kernel
theorem dX7_readLine_83 : decode cX7_readLine 83 = .ok (.getfield 87, 3) := by decide +kernel
theorem dX7_readLine_86 : decode cX7_readLine 86 = .ok (.iload_n 1, 1) := by decide +kernel
theorem dX7_readLine_87 : decode cX7_readLine 87 = .ok (.if_icmp .ge 82, 3) := by decide +kernel
theorem dX7_readLine_90 : decode cX7_readLine 90 = .ok (.aload_n 0, 1) := by decide +kernel
theorem dX7_readLine_91 : decode cX7_readLine 91 = .ok (.getfield 16, 3) := by decide +kernel
theorem dX7_readLine_94 : decode cX7_readLine 94 = .ok (.aload_n 0, 1) := by decide +kernel
theorem dX7_readLine_95 : decode cX7_readLine 95 = .ok (.getfield 87, 3) := by decide +kernel
theorem dX7_readLine_98 : decode cX7_readLine 98 = .ok (.iaload, 1) := by decide +kernel
theorem dX7_readLine_99 : decode cX7_readLine 99 = .ok (.bipush 45, 2) := by decide +kernel
theorem dX7_readLine_101 : decode cX7_readLine 101 = .ok (.if_icmp .eq 17, 3) := by decide +kernel
theorem dX7_readLine_104 : decode cX7_readLine 104 = .ok (.aload_n 0, 1) := by decide +kernel
theorem dX7_readLine_105 : decode cX7_readLine 105 = .ok (.getfield 16, 3) := by decide +kernel
theorem dX7_readLine_108 : decode cX7_readLine 108 = .ok (.aload_n 0, 1) := by decide +kernel
theorem dX7_readLine_109 : decode cX7_readLine 109 = .ok (.getfield 87, 3) := by decide +kernel
theorem dX7_readLine_112 : decode cX7_readLine 112 = .ok (.iaload, 1) := by decide +kernel
theorem dX7_readLine_113 : decode cX7_readLine 113 = .ok (.bipush 117, 2) := by decide +kernel
theorem dX7_readLine_115 : decode cX7_readLine 115 = .ok (.if_icmp .ne 54, 3) := by decide +kernel
theorem dX7_readLine_118 : decode cX7_readLine 118 = .ok (.aload_n 0, 1) := by decide +kernel
theorem dX7_readLine_119 : decode cX7_readLine 119 = .ok (.getfield 44, 3) := by decide +kernel
theorem dX7_readLine_122 : decode cX7_readLine 122 = .ok (.aload_n 0, 1) := by decide +kernel
theorem dX7_readLine_123 : decode cX7_readLine 123 = .ok (.getfield 111, 3) := by decide +kernel
theorem dX7_readLine_126 : decode cX7_readLine 126 = .ok (.aload_n 0, 1) := by decide +kernel
theorem dX7_readLine_127 : decode cX7_readLine 127 = .ok (.getfield 16, 3) := by decide +kernel
theorem dX7_readLine_130 : decode cX7_readLine 130 = .ok (.aload_n 0, 1) := by decide +kernel
theorem dX7_readLine_131 : decode cX7_readLine 131 = .ok (.getfield 87, 3) := by decide +kernel
theorem dX7_readLine_134 : decode cX7_readLine 134 = .ok (.iaload, 1) := by decide +kernel
theorem dX7_readLine_135 : decode cX7_readLine 135 = .ok (.bipush 117, 2) := by decide +kernel
theorem dX7_readLine_137 : decode cX7_readLine 137 = .ok (.if_icmp .ne 7, 3) := by decide +kernel
theorem dX7_readLine_140 : decode cX7_readLine 140 = .ok (.iconst 1, 1) := by decide +kernel
theorem dX7_readLine_141 : decode cX7_readLine 141 = .ok (.goto 4, 3) := by decide +kernel
theorem dX7_readLine_144 : decode cX7_readLine 144 = .ok (.iconst 0, 1) := by decide +kernel
theorem dX7_readLine_145 : decode cX7_readLine 145 = .ok (.bastore, 1) := by decide +kernel
theorem dX7_readLine_146 : decode cX7_readLine 146 = .ok (.aload_n 0, 1) := by decide +kernel
theorem dX7_readLine_147 : decode cX7_readLine 147 = .ok (.dup, 1) := by decide +kernel
theorem dX7_readLine_148 : decode cX7_readLine 148 = .ok (.getfield 111, 3) := by decide +kernel
theorem dX7_readLine_151 : decode cX7_readLine 151 = .ok (.iconst 1, 1) := by decide +kernel
theorem dX7_readLine_152 : decode cX7_readLine 152 = .ok (.iadd, 1) := by decide +kernel
theorem dX7_readLine_153 : decode cX7_readLine 153 = .ok (.putfield 111, 3) := by decide +kernel
theorem dX7_readLine_156 : decode cX7_readLine 156 = .ok (.aload_n 0, 1) := by decide +kernel
theorem dX7_readLine_157 : decode cX7_readLine 157 = .ok (.dup, 1) := by decide +kernel
theorem dX7_readLine_158 : decode cX7_readLine 158 = .ok (.getfield 87, 3) := by decide +kernel
theorem dX7_readLine_161 : decode cX7_readLine 161 = .ok (.iconst 1, 1) := by decide +kernel
theorem dX7_readLine_162 : decode cX7_readLine 162 = .ok (.iadd, 1) := by decide +kernel
theorem dX7_readLine_163 : decode cX7_readLine 163 = .ok (.putfield 87, 3) := by decide +kernel
theorem dX7_readLine_166 : decode cX7_readLine 166 = .ok (.goto (-93), 3) := by decide +kernel
theorem dX7_readLine_169 : decode cX7_readLine 169 = .ok (.aload_n 0, 1) := by decide +kernel
theorem dX7_readLine_170 : decode cX7_readLine 170 = .ok (.getfield 111, 3) := by decide +kernel
theorem dX7_readLine_173 : decode cX7_readLine 173 = .ok (.ifCond .ne 5, 3) := by decide +kernel
theorem dX7_readLine_176 : decode cX7_readLine 176 = .ok (.iconst 0, 1) := by decide +kernel
theorem dX7_readLine_177 : decode cX7_readLine 177 = .ok (.ireturn, 1) := by decide +kernel
theorem dX7_readLine_178 : decode cX7_readLine 178 = .ok (.aload_n 0, 1) := by decide +kernel
theorem dX7_readLine_179 : decode cX7_readLine 179 = .ok (.getfield 114, 3) := by decide +kernel
theorem dX7_readLine_182 : decode cX7_readLine 182 = .ok (.ifCond .eq 19, 3) := by decide +kernel
theorem dX7_readLine_185 : decode cX7_readLine 185 = .ok (.aload_n 0, 1) := by decide +kernel
theorem dX7_readLine_186 : decode cX7_readLine 186 = .ok (.getfield 114, 3) := by decide +kernel
theorem dX7_readLine_189 : decode cX7_readLine 189 = .ok (.iconst 4, 1) := by decide +kernel
theorem dX7_readLine_190 : decode cX7_readLine 190 = .ok (.if_icmp .ge 31, 3) := by decide +kernel
theorem dX7_readLine_193 : decode cX7_readLine 193 = .ok (.aload_n 0, 1) := by decide +kernel
theorem dX7_readLine_194 : decode cX7_readLine 194 = .ok (.getfield 87, 3) := by decide +kernel
theorem dX7_readLine_197 : decode cX7_readLine 197 = .ok (.iload_n 1, 1) := by decide +kernel
theorem dX7_readLine_198 : decode cX7_readLine 198 = .ok (.if_icmp .ge 23, 3) := by decide +kernel
theorem dX7_readLine_201 : decode cX7_readLine 201 = .ok (.aload_n 0, 1) := by decide +kernel
theorem dX7_readLine_202 : decode cX7_readLine 202 = .ok (.iload_n 1, 1) := by decide +kernel
theorem dX7_readLine_203 : decode cX7_readLine 203 = .ok (.bipush 44, 2) := by decide +kernel
theorem dX7_readLine_205 : decode cX7_readLine 205 = .ok (.invokevirtual 126, 3) := by decide +kernel
theorem dX7_readLine_208 : decode cX7_readLine 208 = .ok (.ifCond .eq 11, 3) := by decide +kernel
theorem dX7_readLine_211 : decode cX7_readLine 211 = .ok (.aload_n 0, 1) := by decide +kernel
theorem dX7_readLine_212 : decode cX7_readLine 212 = .ok (.iload_n 1, 1) := by decide +kernel
theorem dX7_readLine_213 : decode cX7_readLine 213 = .ok (.invokevirtual 134, 3) := by decide +kernel
theorem dX7_readLine_216 : decode cX7_readLine 216 = .ok (.ifCond .ne (-38), 3) := by decide +kernel
theorem dX7_readLine_219 : decode cX7_readLine 219 = .ok (.iconst 0, 1) := by decide +kernel
theorem dX7_readLine_220 : decode cX7_readLine 220 = .ok (.ireturn, 1) := by decide +kernel
theorem dX7_readLine_221 : decode cX7_readLine 221 = .ok (.aload_n 0, 1) := by decide +kernel
theorem dX7_readLine_222 : decode cX7_readLine 222 = .ok (.getfield 87, 3) := by decide +kernel
theorem dX7_readLine_225 : decode cX7_readLine 225 = .ok (.iload_n 1, 1) := by decide +kernel
theorem dX7_readLine_226 : decode cX7_readLine 226 = .ok (.if_icmp .ne 7, 3) := by decide +kernel
theorem dX7_readLine_229 : decode cX7_readLine 229 = .ok (.iconst 1, 1) := by decide +kernel
theorem dX7_readLine_230 : decode cX7_readLine 230 = .ok (.goto 4, 3) := by decide +kernel
theorem dX7_readLine_233 : decode cX7_readLine 233 = .ok (.iconst 0, 1) := by decide +kernel
theorem dX7_readLine_234 : decode cX7_readLine 234 = .ok (.ireturn, 1) := by decide +kernel
theorem dX7_readPassenger_0 : decode cX7_readPassenger 0 = .ok (.iconst 3, 1) := by decide +kernel
theorem dX7_readPassenger_1 : decode cX7_readPassenger 1 = .ok (.aload_n 0, 1) := by decide +kernel
theorem dX7_readPassenger_2 : decode cX7_readPassenger 2 = .ok (.getfield 114, 3) := by decide +kernel
theorem dX7_readPassenger_5 : decode cX7_readPassenger 5 = .ok (.imul, 1) := by decide +kernel
theorem dX7_readPassenger_6 : decode cX7_readPassenger 6 = .ok (.istore_n 2, 1) := by decide +kernel
theorem dX7_readPassenger_7 : decode cX7_readPassenger 7 = .ok (.aload_n 0, 1) := by decide +kernel
theorem dX7_readPassenger_8 : decode cX7_readPassenger 8 = .ok (.getfield 87, 3) := by decide +kernel
theorem dX7_readPassenger_11 : decode cX7_readPassenger 11 = .ok (.iload_n 1, 1) := by decide +kernel
theorem dX7_readPassenger_12 : decode cX7_readPassenger 12 = .ok (.if_icmp .ge 15, 3) := by decide +kernel
theorem dX7_readPassenger_15 : decode cX7_readPassenger 15 = .ok (.aload_n 0, 1) := by decide +kernel
theorem dX7_readPassenger_16 : decode cX7_readPassenger 16 = .ok (.getfield 16, 3) := by decide +kernel
theorem dX7_readPassenger_19 : decode cX7_readPassenger 19 = .ok (.aload_n 0, 1) := by decide +kernel
theorem dX7_readPassenger_20 : decode cX7_readPassenger 20 = .ok (.getfield 87, 3) := by decide +kernel
theorem dX7_readPassenger_23 : decode cX7_readPassenger 23 = .ok (.iaload, 1) := by decide +kernel
theorem dX7_readPassenger_24 : decode cX7_readPassenger 24 = .ok (.goto 4, 3) := by decide +kernel
theorem dX7_readPassenger_27 : decode cX7_readPassenger 27 = .ok (.iconst 0, 1) := by decide +kernel
theorem dX7_readPassenger_28 : decode cX7_readPassenger 28 = .ok (.istore_n 3, 1) := by decide +kernel
theorem dX7_readPassenger_29 : decode cX7_readPassenger 29 = .ok (.aload_n 0, 1) := by decide +kernel
theorem dX7_readPassenger_30 : decode cX7_readPassenger 30 = .ok (.getfield 47, 3) := by decide +kernel
theorem dX7_readPassenger_33 : decode cX7_readPassenger 33 = .ok (.iload_n 2, 1) := by decide +kernel
theorem dX7_readPassenger_34 : decode cX7_readPassenger 34 = .ok (.iload_n 3, 1) := by decide +kernel
theorem dX7_readPassenger_35 : decode cX7_readPassenger 35 = .ok (.bipush 112, 2) := by decide +kernel
theorem dX7_readPassenger_37 : decode cX7_readPassenger 37 = .ok (.if_icmp .ne 7, 3) := by decide +kernel
theorem dX7_readPassenger_40 : decode cX7_readPassenger 40 = .ok (.iconst 0, 1) := by decide +kernel
theorem dX7_readPassenger_41 : decode cX7_readPassenger 41 = .ok (.goto 25, 3) := by decide +kernel
theorem dX7_readPassenger_44 : decode cX7_readPassenger 44 = .ok (.iload_n 3, 1) := by decide +kernel
theorem dX7_readPassenger_45 : decode cX7_readPassenger 45 = .ok (.bipush 119, 2) := by decide +kernel
theorem dX7_readPassenger_47 : decode cX7_readPassenger 47 = .ok (.if_icmp .ne 7, 3) := by decide +kernel
theorem dX7_readPassenger_50 : decode cX7_readPassenger 50 = .ok (.iconst 1, 1) := by decide +kernel
theorem dX7_readPassenger_51 : decode cX7_readPassenger 51 = .ok (.goto 15, 3) := by decide +kernel
theorem dX7_readPassenger_54 : decode cX7_readPassenger 54 = .ok (.iload_n 3, 1) := by decide +kernel
theorem dX7_readPassenger_55 : decode cX7_readPassenger 55 = .ok (.bipush 104, 2) := by decide +kernel
theorem dX7_readPassenger_57 : decode cX7_readPassenger 57 = .ok (.if_icmp .ne 7, 3) := by decide +kernel
theorem dX7_readPassenger_60 : decode cX7_readPassenger 60 = .ok (.iconst 2, 1) := by decide +kernel
theorem dX7_readPassenger_61 : decode cX7_readPassenger 61 = .ok (.goto 5, 3) := by decide +kernel
theorem dX7_readPassenger_64 : decode cX7_readPassenger 64 = .ok (.bipush (-9), 2) := by decide +kernel
theorem dX7_readPassenger_66 : decode cX7_readPassenger 66 = .ok (.iastore, 1) := by decide +kernel
theorem dX7_readPassenger_67 : decode cX7_readPassenger 67 = .ok (.aload_n 0, 1) := by decide +kernel
theorem dX7_readPassenger_68 : decode cX7_readPassenger 68 = .ok (.getfield 47, 3) := by decide +kernel
theorem dX7_readPassenger_71 : decode cX7_readPassenger 71 = .ok (.iload_n 2, 1) := by decide +kernel
theorem dX7_readPassenger_72 : decode cX7_readPassenger 72 = .ok (.iaload, 1) := by decide +kernel
theorem dX7_readPassenger_73 : decode cX7_readPassenger 73 = .ok (.bipush (-9), 2) := by decide +kernel
theorem dX7_readPassenger_75 : decode cX7_readPassenger 75 = .ok (.if_icmp .ne 5, 3) := by decide +kernel
theorem dX7_readPassenger_78 : decode cX7_readPassenger 78 = .ok (.iconst 0, 1) := by decide +kernel
theorem dX7_readPassenger_79 : decode cX7_readPassenger 79 = .ok (.ireturn, 1) := by decide +kernel
theorem dX7_readPassenger_80 : decode cX7_readPassenger 80 = .ok (.aload_n 0, 1) := by decide +kernel
theorem dX7_readPassenger_81 : decode cX7_readPassenger 81 = .ok (.dup, 1) := by decide +kernel
theorem dX7_readPassenger_82 : decode cX7_readPassenger 82 = .ok (.getfield 87, 3) := by decide +kernel
theorem dX7_readPassenger_85 : decode cX7_readPassenger 85 = .ok (.iconst 1, 1) := by decide +kernel
theorem dX7_readPassenger_86 : decode cX7_readPassenger 86 = .ok (.iadd, 1) := by decide +kernel
theorem dX7_readPassenger_87 : decode cX7_readPassenger 87 = .ok (.putfield 87, 3) := by decide +kernel
theorem dX7_readPassenger_90 : decode cX7_readPassenger 90 = .ok (.aload_n 0, 1) := by decide +kernel
theorem dX7_readPassenger_91 : decode cX7_readPassenger 91 = .ok (.iload_n 1, 1) := by decide +kernel
theorem dX7_readPassenger_92 : decode cX7_readPassenger 92 = .ok (.iconst 0, 1) := by decide +kernel
theorem dX7_readPassenger_93 : decode cX7_readPassenger 93 = .ok (.iconst 5, 1) := by decide +kernel
theorem dX7_readPassenger_94 : decode cX7_readPassenger 94 = .ok (.invokevirtual 130, 3) := by decide +kernel
theorem dX7_readPassenger_97 : decode cX7_readPassenger 97 = .ok (.istore 4, 2) := by decide +kernel
theorem dX7_readPassenger_99 : decode cX7_readPassenger 99 = .ok (.iload 4, 2) := by decide +kernel
theorem dX7_readPassenger_101 : decode cX7_readPassenger 101 = .ok (.bipush (-9), 2) := by decide +kernel
theorem dX7_readPassenger_103 : decode cX7_readPassenger 103 = .ok (.if_icmp .ne 5, 3) := by decide +kernel
theorem dX7_readPassenger_106 : decode cX7_readPassenger 106 = .ok (.iconst 0, 1) := by decide +kernel
theorem dX7_readPassenger_107 : decode cX7_readPassenger 107 = .ok (.ireturn, 1) := by decide +kernel
theorem dX7_readPassenger_108 : decode cX7_readPassenger 108 = .ok (.aload_n 0, 1) := by decide +kernel
theorem dX7_readPassenger_109 : decode cX7_readPassenger 109 = .ok (.iload_n 1, 1) := by decide +kernel
theorem dX7_readPassenger_110 : decode cX7_readPassenger 110 = .ok (.iconst 0, 1) := by decide +kernel
theorem dX7_readPassenger_111 : decode cX7_readPassenger 111 = .ok (.bipush 9, 2) := by decide +kernel
theorem dX7_readPassenger_113 : decode cX7_readPassenger 113 = .ok (.invokevirtual 130, 3) := by decide +kernel
theorem dX7_readPassenger_116 : decode cX7_readPassenger 116 = .ok (.istore 5, 2) := by decide +kernel
theorem dX7_readPassenger_118 : decode cX7_readPassenger 118 = .ok (.iload 5, 2) := by decide +kernel
theorem dX7_readPassenger_120 : decode cX7_readPassenger 120 = .ok (.bipush (-9), 2) := by decide +kernel
theorem dX7_readPassenger_122 : decode cX7_readPassenger 122 = .ok (.if_icmp .ne 5, 3) := by decide +kernel
theorem dX7_readPassenger_125 : decode cX7_readPassenger 125 = .ok (.iconst 0, 1) := by decide +kernel
theorem dX7_readPassenger_126 : decode cX7_readPassenger 126 = .ok (.ireturn, 1) := by decide +kernel
theorem dX7_readPassenger_127 : decode cX7_readPassenger 127 = .ok (.aload_n 0, 1) := by decide +kernel
theorem dX7_readPassenger_128 : decode cX7_readPassenger 128 = .ok (.getfield 47, 3) := by decide +kernel
theorem dX7_readPassenger_131 : decode cX7_readPassenger 131 = .ok (.iload_n 2, 1) := by decide +kernel
theorem dX7_readPassenger_132 : decode cX7_readPassenger 132 = .ok (.iconst 1, 1) := by decide +kernel
theorem dX7_readPassenger_133 : decode cX7_readPassenger 133 = .ok (.iadd, 1) := by decide +kernel
theorem dX7_readPassenger_134 : decode cX7_readPassenger 134 = .ok (.bipush 10, 2) := by decide +kernel
theorem dX7_readPassenger_136 : decode cX7_readPassenger 136 = .ok (.iload 4, 2) := by decide +kernel
theorem dX7_readPassenger_138 : decode cX7_readPassenger 138 = .ok (.imul, 1) := by decide +kernel
theorem dX7_readPassenger_139 : decode cX7_readPassenger 139 = .ok (.iload 5, 2) := by decide +kernel
theorem dX7_readPassenger_141 : decode cX7_readPassenger 141 = .ok (.iadd, 1) := by decide +kernel
theorem dX7_readPassenger_142 : decode cX7_readPassenger 142 = .ok (.iastore, 1) := by decide +kernel
theorem dX7_readPassenger_143 : decode cX7_readPassenger 143 = .ok (.aload_n 0, 1) := by decide +kernel
theorem dX7_readPassenger_144 : decode cX7_readPassenger 144 = .ok (.getfield 47, 3) := by decide +kernel
theorem dX7_readPassenger_147 : decode cX7_readPassenger 147 = .ok (.iload_n 2, 1) := by decide +kernel
theorem dX7_readPassenger_148 : decode cX7_readPassenger 148 = .ok (.iconst 2, 1) := by decide +kernel
theorem dX7_readPassenger_149 : decode cX7_readPassenger 149 = .ok (.iadd, 1) := by decide +kernel
theorem dX7_readPassenger_150 : decode cX7_readPassenger 150 = .ok (.aload_n 0, 1) := by decide +kernel
theorem dX7_readPassenger_151 : decode cX7_readPassenger 151 = .ok (.iload_n 1, 1) := by decide +kernel
theorem dX7_readPassenger_152 : decode cX7_readPassenger 152 = .ok (.iconst 0, 1) := by decide +kernel
theorem dX7_readPassenger_153 : decode cX7_readPassenger 153 = .ok (.bipush 9, 2) := by decide +kernel
theorem dX7_readPassenger_155 : decode cX7_readPassenger 155 = .ok (.invokevirtual 130, 3) := by decide +kernel
theorem dX7_readPassenger_158 : decode cX7_readPassenger 158 = .ok (.iastore, 1) := by decide +kernel
theorem dX7_readPassenger_159 : decode cX7_readPassenger 159 = .ok (.aload_n 0, 1) := by decide +kernel
theorem dX7_readPassenger_160 : decode cX7_readPassenger 160 = .ok (.dup, 1) := by decide +kernel
theorem dX7_readPassenger_161 : decode cX7_readPassenger 161 = .ok (.getfield 114, 3) := by decide +kernel
theorem dX7_readPassenger_164 : decode cX7_readPassenger 164 = .ok (.iconst 1, 1) := by decide +kernel
theorem dX7_readPassenger_165 : decode cX7_readPassenger 165 = .ok (.iadd, 1) := by decide +kernel
theorem dX7_readPassenger_166 : decode cX7_readPassenger 166 = .ok (.putfield 114, 3) := by decide +kernel
theorem dX7_readPassenger_169 : decode cX7_readPassenger 169 = .ok (.aload_n 0, 1) := by decide +kernel
theorem dX7_readPassenger_170 : decode cX7_readPassenger 170 = .ok (.getfield 47, 3) := by decide +kernel
theorem dX7_readPassenger_173 : decode cX7_readPassenger 173 = .ok (.iload_n 2, 1) := by decide +kernel
theorem dX7_readPassenger_174 : decode cX7_readPassenger 174 = .ok (.iconst 2, 1) := by decide +kernel
theorem dX7_readPassenger_175 : decode cX7_readPassenger 175 = .ok (.iadd, 1) := by decide +kernel
theorem dX7_readPassenger_176 : decode cX7_readPassenger 176 = .ok (.iaload, 1) := by decide +kernel
theorem dX7_readPassenger_177 : decode cX7_readPassenger 177 = .ok (.bipush (-9), 2) := by decide +kernel
theorem dX7_readPassenger_179 : decode cX7_readPassenger 179 = .ok (.if_icmp .eq 7, 3) := by decide +kernel
theorem dX7_readPassenger_182 : decode cX7_readPassenger 182 = .ok (.iconst 1, 1) := by decide +kernel
theorem dX7_readPassenger_183 : decode cX7_readPassenger 183 = .ok (.goto 4, 3) := by decide +kernel
theorem dX7_readPassenger_186 : decode cX7_readPassenger 186 = .ok (.iconst 0, 1) := by decide +kernel
theorem dX7_readPassenger_187 : decode cX7_readPassenger 187 = .ok (.ireturn, 1) := by decide +kernel
theorem dX7_ofPassenger_0 : decode cX7_ofPassenger 0 = .ok (.aload_n 0, 1) := by decide +kernel
theorem dX7_ofPassenger_1 : decode cX7_ofPassenger 1 = .ok (.iload_n 1, 1) := by decide +kernel
theorem dX7_ofPassenger_2 : decode cX7_ofPassenger 2 = .ok (.invokevirtual 137, 3) := by decide +kernel
theorem dX7_ofPassenger_5 : decode cX7_ofPassenger 5 = .ok (.ifCond .ne 5, 3) := by decide +kernel
theorem dX7_ofPassenger_8 : decode cX7_ofPassenger 8 = .ok (.iconst (-1), 1) := by decide +kernel
theorem dX7_ofPassenger_9 : decode cX7_ofPassenger 9 = .ok (.ireturn, 1) := by decide +kernel
theorem dX7_ofPassenger_10 : decode cX7_ofPassenger 10 = .ok (.iload_n 2, 1) := by decide +kernel
theorem dX7_ofPassenger_11 : decode cX7_ofPassenger 11 = .ok (.ifCond .ne 12, 3) := by decide +kernel
theorem dX7_ofPassenger_14 : decode cX7_ofPassenger 14 = .ok (.aload_n 0, 1) := by decide +kernel
theorem dX7_ofPassenger_15 : decode cX7_ofPassenger 15 = .ok (.getfield 32, 3) := by decide +kernel
theorem dX7_ofPassenger_18 : decode cX7_ofPassenger 18 = .ok (.iload_n 1, 1) := by decide +kernel
theorem dX7_ofPassenger_19 : decode cX7_ofPassenger 19 = .ok (.iaload, 1) := by decide +kernel
theorem dX7_ofPassenger_20 : decode cX7_ofPassenger 20 = .ok (.goto 33, 3) := by decide +kernel
theorem dX7_ofPassenger_23 : decode cX7_ofPassenger 23 = .ok (.iload_n 2, 1) := by decide +kernel
theorem dX7_ofPassenger_24 : decode cX7_ofPassenger 24 = .ok (.iconst 1, 1) := by decide +kernel
theorem dX7_ofPassenger_25 : decode cX7_ofPassenger 25 = .ok (.if_icmp .ne 12, 3) := by decide +kernel
theorem dX7_ofPassenger_28 : decode cX7_ofPassenger 28 = .ok (.aload_n 0, 1) := by decide +kernel
theorem dX7_ofPassenger_29 : decode cX7_ofPassenger 29 = .ok (.getfield 35, 3) := by decide +kernel
theorem dX7_ofPassenger_32 : decode cX7_ofPassenger 32 = .ok (.iload_n 1, 1) := by decide +kernel
theorem dX7_ofPassenger_33 : decode cX7_ofPassenger 33 = .ok (.iaload, 1) := by decide +kernel
theorem dX7_ofPassenger_34 : decode cX7_ofPassenger 34 = .ok (.goto 19, 3) := by decide +kernel
theorem dX7_ofPassenger_37 : decode cX7_ofPassenger 37 = .ok (.iload_n 2, 1) := by decide +kernel
theorem dX7_ofPassenger_38 : decode cX7_ofPassenger 38 = .ok (.iconst 2, 1) := by decide +kernel
theorem dX7_ofPassenger_39 : decode cX7_ofPassenger 39 = .ok (.if_icmp .ne 12, 3) := by decide +kernel
theorem dX7_ofPassenger_42 : decode cX7_ofPassenger 42 = .ok (.aload_n 0, 1) := by decide +kernel
theorem dX7_ofPassenger_43 : decode cX7_ofPassenger 43 = .ok (.getfield 38, 3) := by decide +kernel
theorem dX7_ofPassenger_46 : decode cX7_ofPassenger 46 = .ok (.iload_n 1, 1) := by decide +kernel
theorem dX7_ofPassenger_47 : decode cX7_ofPassenger 47 = .ok (.iaload, 1) := by decide +kernel
theorem dX7_ofPassenger_48 : decode cX7_ofPassenger 48 = .ok (.goto 5, 3) := by decide +kernel
theorem dX7_ofPassenger_51 : decode cX7_ofPassenger 51 = .ok (.bipush (-2), 2) := by decide +kernel
theorem dX7_ofPassenger_53 : decode cX7_ofPassenger 53 = .ok (.ireturn, 1) := by decide +kernel
theorem dX7_seats_0 : decode cX7_seats 0 = .ok (.aload_n 0, 1) := by decide +kernel
theorem dX7_seats_1 : decode cX7_seats 1 = .ok (.getfield 84, 3) := by decide +kernel
theorem dX7_seats_4 : decode cX7_seats 4 = .ok (.ifCond .ne 6, 3) := by decide +kernel
theorem dX7_seats_7 : decode cX7_seats 7 = .ok (.bipush (-3), 2) := by decide +kernel
theorem dX7_seats_9 : decode cX7_seats 9 = .ok (.ireturn, 1) := by decide +kernel
theorem dX7_seats_10 : decode cX7_seats 10 = .ok (.iload_n 1, 1) := by decide +kernel
theorem dX7_seats_11 : decode cX7_seats 11 = .ok (.iconst 0, 1) := by decide +kernel
theorem dX7_seats_12 : decode cX7_seats 12 = .ok (.iconst 2, 1) := by decide +kernel
theorem dX7_seats_13 : decode cX7_seats 13 = .ok (.invokestatic 77, 3) := by decide +kernel
theorem dX7_seats_16 : decode cX7_seats 16 = .ok (.ifCond .eq 12, 3) := by decide +kernel
theorem dX7_seats_19 : decode cX7_seats 19 = .ok (.iload_n 2, 1) := by decide +kernel
theorem dX7_seats_20 : decode cX7_seats 20 = .ok (.iconst 0, 1) := by decide +kernel
theorem dX7_seats_21 : decode cX7_seats 21 = .ok (.iconst 4, 1) := by decide +kernel
theorem dX7_seats_22 : decode cX7_seats 22 = .ok (.invokestatic 77, 3) := by decide +kernel
theorem dX7_seats_25 : decode cX7_seats 25 = .ok (.ifCond .ne 6, 3) := by decide +kernel
theorem dX7_seats_28 : decode cX7_seats 28 = .ok (.bipush (-2), 2) := by decide +kernel
theorem dX7_seats_30 : decode cX7_seats 30 = .ok (.ireturn, 1) := by decide +kernel
theorem dX7_seats_31 : decode cX7_seats 31 = .ok (.aload_n 0, 1) := by decide +kernel
theorem dX7_seats_32 : decode cX7_seats 32 = .ok (.getfield 19, 3) := by decide +kernel
theorem dX7_seats_35 : decode cX7_seats 35 = .ok (.iload_n 1, 1) := by decide +kernel
theorem dX7_seats_36 : decode cX7_seats 36 = .ok (.iaload, 1) := by decide +kernel
theorem dX7_seats_37 : decode cX7_seats 37 = .ok (.istore_n 3, 1) := by decide +kernel
theorem dX7_seats_38 : decode cX7_seats 38 = .ok (.aload_n 0, 1) := by decide +kernel
theorem dX7_seats_39 : decode cX7_seats 39 = .ok (.getfield 19, 3) := by decide +kernel
theorem dX7_seats_42 : decode cX7_seats 42 = .ok (.iload_n 1, 1) := by decide +kernel
theorem dX7_seats_43 : decode cX7_seats 43 = .ok (.iload_n 2, 1) := by decide +kernel
theorem dX7_seats_44 : decode cX7_seats 44 = .ok (.iastore, 1) := by decide +kernel
theorem dX7_seats_45 : decode cX7_seats 45 = .ok (.iload_n 3, 1) := by decide +kernel
theorem dX7_seats_46 : decode cX7_seats 46 = .ok (.ireturn, 1) := by decide +kernel
theorem dX7_limits_0 : decode cX7_limits 0 = .ok (.aload_n 0, 1) := by decide +kernel
theorem dX7_limits_1 : decode cX7_limits 1 = .ok (.getfield 84, 3) := by decide +kernel
theorem dX7_limits_4 : decode cX7_limits 4 = .ok (.ifCond .ne 6, 3) := by decide +kernel
theorem dX7_limits_7 : decode cX7_limits 7 = .ok (.bipush (-3), 2) := by decide +kernel
theorem dX7_limits_9 : decode cX7_limits 9 = .ok (.ireturn, 1) := by decide +kernel
theorem dX7_limits_10 : decode cX7_limits 10 = .ok (.iload_n 1, 1) := by decide +kernel
theorem dX7_limits_11 : decode cX7_limits 11 = .ok (.iconst 0, 1) := by decide +kernel
theorem dX7_limits_12 : decode cX7_limits 12 = .ok (.bipush 99, 2) := by decide +kernel
theorem dX7_limits_14 : decode cX7_limits 14 = .ok (.invokestatic 77, 3) := by decide +kernel
theorem dX7_limits_17 : decode cX7_limits 17 = .ok (.ifCond .eq 13, 3) := by decide +kernel
theorem dX7_limits_20 : decode cX7_limits 20 = .ok (.iload_n 2, 1) := by decide +kernel
theorem dX7_limits_21 : decode cX7_limits 21 = .ok (.iload_n 1, 1) := by decide +kernel
theorem dX7_limits_22 : decode cX7_limits 22 = .ok (.bipush 99, 2) := by decide +kernel
theorem dX7_limits_24 : decode cX7_limits 24 = .ok (.invokestatic 77, 3) := by decide +kernel
theorem dX7_limits_27 : decode cX7_limits 27 = .ok (.ifCond .ne 6, 3) := by decide +kernel
theorem dX7_limits_30 : decode cX7_limits 30 = .ok (.bipush (-2), 2) := by decide +kernel
theorem dX7_limits_32 : decode cX7_limits 32 = .ok (.ireturn, 1) := by decide +kernel
theorem dX7_limits_33 : decode cX7_limits 33 = .ok (.bipush 100, 2) := by decide +kernel
theorem dX7_limits_35 : decode cX7_limits 35 = .ok (.aload_n 0, 1) := by decide +kernel
theorem dX7_limits_36 : decode cX7_limits 36 = .ok (.getfield 117, 3) := by decide +kernel
theorem dX7_limits_39 : decode cX7_limits 39 = .ok (.imul, 1) := by decide +kernel
theorem dX7_limits_40 : decode cX7_limits 40 = .ok (.aload_n 0, 1) := by decide +kernel
theorem dX7_limits_41 : decode cX7_limits 41 = .ok (.getfield 120, 3) := by decide +kernel
theorem dX7_limits_44 : decode cX7_limits 44 = .ok (.iadd, 1) := by decide +kernel
theorem dX7_limits_45 : decode cX7_limits 45 = .ok (.istore_n 3, 1) := by decide +kernel
theorem dX7_limits_46 : decode cX7_limits 46 = .ok (.aload_n 0, 1) := by decide +kernel
theorem dX7_limits_47 : decode cX7_limits 47 = .ok (.iload_n 1, 1) := by decide +kernel
theorem dX7_limits_48 : decode cX7_limits 48 = .ok (.putfield 117, 3) := by decide +kernel
theorem dX7_limits_51 : decode cX7_limits 51 = .ok (.aload_n 0, 1) := by decide +kernel
theorem dX7_limits_52 : decode cX7_limits 52 = .ok (.iload_n 2, 1) := by decide +kernel
theorem dX7_limits_53 : decode cX7_limits 53 = .ok (.putfield 120, 3) := by decide +kernel
theorem dX7_limits_56 : decode cX7_limits 56 = .ok (.iload_n 3, 1) := by decide +kernel
theorem dX7_limits_57 : decode cX7_limits 57 = .ok (.ireturn, 1) := by decide +kernel
theorem dX7_dig_0 : decode cX7_dig 0 = .ok (.aload_n 0, 1) := by decide +kernel
theorem dX7_dig_1 : decode cX7_dig 1 = .ok (.getfield 84, 3) := by decide +kernel
theorem dX7_dig_4 : decode cX7_dig 4 = .ok (.ifCond .ne 6, 3) := by decide +kernel
theorem dX7_dig_7 : decode cX7_dig 7 = .ok (.bipush (-3), 2) := by decide +kernel
theorem dX7_dig_9 : decode cX7_dig 9 = .ok (.ireturn, 1) := by decide +kernel
theorem dX7_dig_10 : decode cX7_dig 10 = .ok (.aload_n 0, 1) := by decide +kernel
theorem dX7_dig_11 : decode cX7_dig 11 = .ok (.iload_n 1, 1) := by decide +kernel
theorem dX7_dig_12 : decode cX7_dig 12 = .ok (.invokevirtual 140, 3) := by decide +kernel
theorem dX7_dig_15 : decode cX7_dig 15 = .ok (.ifCond .ne 6, 3) := by decide +kernel
theorem dX7_dig_18 : decode cX7_dig 18 = .ok (.bipush (-2), 2) := by decide +kernel
theorem dX7_dig_20 : decode cX7_dig 20 = .ok (.ireturn, 1) := by decide +kernel
theorem dX7_dig_21 : decode cX7_dig 21 = .ok (.aload_n 0, 1) := by decide +kernel
theorem dX7_dig_22 : decode cX7_dig 22 = .ok (.getfield 22, 3) := by decide +kernel
theorem dX7_dig_25 : decode cX7_dig 25 = .ok (.iload_n 1, 1) := by decide +kernel
theorem dX7_dig_26 : decode cX7_dig 26 = .ok (.baload, 1) := by decide +kernel
theorem dX7_dig_27 : decode cX7_dig 27 = .ok (.istore_n 3, 1) := by decide +kernel
theorem dX7_dig_28 : decode cX7_dig 28 = .ok (.aload_n 0, 1) := by decide +kernel
theorem dX7_dig_29 : decode cX7_dig 29 = .ok (.getfield 22, 3) := by decide +kernel
theorem dX7_dig_32 : decode cX7_dig 32 = .ok (.iload_n 1, 1) := by decide +kernel
theorem dX7_dig_33 : decode cX7_dig 33 = .ok (.iload_n 2, 1) := by decide +kernel
theorem dX7_dig_34 : decode cX7_dig 34 = .ok (.bastore, 1) := by decide +kernel
theorem dX7_dig_35 : decode cX7_dig 35 = .ok (.iload_n 3, 1) := by decide +kernel
theorem dX7_dig_36 : decode cX7_dig 36 = .ok (.iload_n 2, 1) := by decide +kernel
theorem dX7_dig_37 : decode cX7_dig 37 = .ok (.if_icmp .ne 7, 3) := by decide +kernel
theorem dX7_dig_40 : decode cX7_dig 40 = .ok (.iconst 0, 1) := by decide +kernel
theorem dX7_dig_41 : decode cX7_dig 41 = .ok (.goto 4, 3) := by decide +kernel
theorem dX7_dig_44 : decode cX7_dig 44 = .ok (.iconst 1, 1) := by decide +kernel
theorem dX7_dig_45 : decode cX7_dig 45 = .ok (.ireturn, 1) := by decide +kernel
theorem dX7_talk_0 : decode cX7_talk 0 = .ok (.aload_n 0, 1) := by decide +kernel
theorem dX7_talk_1 : decode cX7_talk 1 = .ok (.getfield 84, 3) := by decide +kernel
theorem dX7_talk_4 : decode cX7_talk 4 = .ok (.ifCond .ne 6, 3) := by decide +kernel
theorem dX7_talk_7 : decode cX7_talk 7 = .ok (.bipush (-3), 2) := by decide +kernel
theorem dX7_talk_9 : decode cX7_talk 9 = .ok (.ireturn, 1) := by decide +kernel
theorem dX7_talk_10 : decode cX7_talk 10 = .ok (.aload_n 0, 1) := by decide +kernel
theorem dX7_talk_11 : decode cX7_talk 11 = .ok (.iload_n 1, 1) := by decide +kernel
theorem dX7_talk_12 : decode cX7_talk 12 = .ok (.invokevirtual 140, 3) := by decide +kernel
theorem dX7_talk_15 : decode cX7_talk 15 = .ok (.ifCond .ne 6, 3) := by decide +kernel
theorem dX7_talk_18 : decode cX7_talk 18 = .ok (.bipush (-2), 2) := by decide +kernel
theorem dX7_talk_20 : decode cX7_talk 20 = .ok (.ireturn, 1) := by decide +kernel
theorem dX7_talk_21 : decode cX7_talk 21 = .ok (.iload_n 2, 1) := by decide +kernel
theorem dX7_talk_22 : decode cX7_talk 22 = .ok (.bipush (-9), 2) := by decide +kernel
theorem dX7_talk_24 : decode cX7_talk 24 = .ok (.if_icmp .ne 13, 3) := by decide +kernel
theorem dX7_talk_27 : decode cX7_talk 27 = .ok (.iload_n 3, 1) := by decide +kernel
theorem dX7_talk_28 : decode cX7_talk 28 = .ok (.bipush (-9), 2) := by decide +kernel
theorem dX7_talk_30 : decode cX7_talk 30 = .ok (.if_icmp .ne 7, 3) := by decide +kernel
theorem dX7_talk_33 : decode cX7_talk 33 = .ok (.iconst 1, 1) := by decide +kernel
theorem dX7_talk_34 : decode cX7_talk 34 = .ok (.goto 4, 3) := by decide +kernel
theorem dX7_talk_37 : decode cX7_talk 37 = .ok (.iconst 0, 1) := by decide +kernel
theorem dX7_talk_38 : decode cX7_talk 38 = .ok (.istore 4, 2) := by decide +kernel
theorem dX7_talk_40 : decode cX7_talk 40 = .ok (.iload 4, 2) := by decide +kernel
theorem dX7_talk_42 : decode cX7_talk 42 = .ok (.ifCond .ne 26, 3) := by decide +kernel
theorem dX7_talk_45 : decode cX7_talk 45 = .ok (.aload_n 0, 1) := by decide +kernel
theorem dX7_talk_46 : decode cX7_talk 46 = .ok (.iload_n 2, 1) := by decide +kernel
theorem dX7_talk_47 : decode cX7_talk 47 = .ok (.invokevirtual 137, 3) := by decide +kernel
theorem dX7_talk_50 : decode cX7_talk 50 = .ok (.ifCond .eq 16, 3) := by decide +kernel
theorem dX7_talk_53 : decode cX7_talk 53 = .ok (.aload_n 0, 1) := by decide +kernel
theorem dX7_talk_54 : decode cX7_talk 54 = .ok (.iload_n 3, 1) := by decide +kernel
theorem dX7_talk_55 : decode cX7_talk 55 = .ok (.invokevirtual 137, 3) := by decide +kernel
theorem dX7_talk_58 : decode cX7_talk 58 = .ok (.ifCond .eq 8, 3) := by decide +kernel
theorem dX7_talk_61 : decode cX7_talk 61 = .ok (.iload_n 2, 1) := by decide +kernel
theorem dX7_talk_62 : decode cX7_talk 62 = .ok (.iload_n 3, 1) := by decide +kernel
theorem dX7_talk_63 : decode cX7_talk 63 = .ok (.if_icmp .ne 5, 3) := by decide +kernel
theorem dX7_talk_66 : decode cX7_talk 66 = .ok (.iconst (-1), 1) := by decide +kernel
theorem dX7_talk_67 : decode cX7_talk 67 = .ok (.ireturn, 1) := by decide +kernel
theorem dX7_talk_68 : decode cX7_talk 68 = .ok (.aload_n 0, 1) := by decide +kernel
theorem dX7_talk_69 : decode cX7_talk 69 = .ok (.getfield 26, 3) := by decide +kernel
theorem dX7_talk_72 : decode cX7_talk 72 = .ok (.iload_n 1, 1) := by decide +kernel
theorem dX7_talk_73 : decode cX7_talk 73 = .ok (.iaload, 1) := by decide +kernel
theorem dX7_talk_74 : decode cX7_talk 74 = .ok (.bipush (-9), 2) := by decide +kernel
theorem dX7_talk_76 : decode cX7_talk 76 = .ok (.if_icmp .ne 8, 3) := by decide +kernel
theorem dX7_talk_79 : decode cX7_talk 79 = .ok (.bipush (-9), 2) := by decide +kernel
theorem dX7_talk_81 : decode cX7_talk 81 = .ok (.goto 19, 3) := by decide +kernel
theorem dX7_talk_84 : decode cX7_talk 84 = .ok (.bipush 10, 2) := by decide +kernel
theorem dX7_talk_86 : decode cX7_talk 86 = .ok (.aload_n 0, 1) := by decide +kernel
theorem dX7_talk_87 : decode cX7_talk 87 = .ok (.getfield 26, 3) := by decide +kernel
theorem dX7_talk_90 : decode cX7_talk 90 = .ok (.iload_n 1, 1) := by decide +kernel
theorem dX7_talk_91 : decode cX7_talk 91 = .ok (.iaload, 1) := by decide +kernel
theorem dX7_talk_92 : decode cX7_talk 92 = .ok (.imul, 1) := by decide +kernel
theorem dX7_talk_93 : decode cX7_talk 93 = .ok (.aload_n 0, 1) := by decide +kernel
theorem dX7_talk_94 : decode cX7_talk 94 = .ok (.getfield 29, 3) := by decide +kernel
theorem dX7_talk_97 : decode cX7_talk 97 = .ok (.iload_n 1, 1) := by decide +kernel
theorem dX7_talk_98 : decode cX7_talk 98 = .ok (.iaload, 1) := by decide +kernel
theorem dX7_talk_99 : decode cX7_talk 99 = .ok (.iadd, 1) := by decide +kernel
theorem dX7_talk_100 : decode cX7_talk 100 = .ok (.istore 5, 2) := by decide +kernel
theorem dX7_talk_102 : decode cX7_talk 102 = .ok (.aload_n 0, 1) := by decide +kernel
theorem dX7_talk_103 : decode cX7_talk 103 = .ok (.getfield 26, 3) := by decide +kernel
theorem dX7_talk_106 : decode cX7_talk 106 = .ok (.iload_n 1, 1) := by decide +kernel
theorem dX7_talk_107 : decode cX7_talk 107 = .ok (.iload_n 2, 1) := by decide +kernel
theorem dX7_talk_108 : decode cX7_talk 108 = .ok (.iastore, 1) := by decide +kernel
theorem dX7_talk_109 : decode cX7_talk 109 = .ok (.aload_n 0, 1) := by decide +kernel
theorem dX7_talk_110 : decode cX7_talk 110 = .ok (.getfield 29, 3) := by decide +kernel
theorem dX7_talk_113 : decode cX7_talk 113 = .ok (.iload_n 1, 1) := by decide +kernel
theorem dX7_talk_114 : decode cX7_talk 114 = .ok (.iload_n 3, 1) := by decide +kernel
theorem dX7_talk_115 : decode cX7_talk 115 = .ok (.iastore, 1) := by decide +kernel
theorem dX7_talk_116 : decode cX7_talk 116 = .ok (.iload 5, 2) := by decide +kernel
theorem dX7_talk_118 : decode cX7_talk 118 = .ok (.ireturn, 1) := by decide +kernel
theorem dX7_bounded_0 : decode cX7_bounded 0 = .ok (.iload_n 0, 1) := by decide +kernel
theorem dX7_bounded_1 : decode cX7_bounded 1 = .ok (.ifCond .ge 7, 3) := by decide +kernel
theorem dX7_bounded_4 : decode cX7_bounded 4 = .ok (.iconst 0, 1) := by decide +kernel
theorem dX7_bounded_5 : decode cX7_bounded 5 = .ok (.goto 15, 3) := by decide +kernel
theorem dX7_bounded_8 : decode cX7_bounded 8 = .ok (.iload_n 0, 1) := by decide +kernel
theorem dX7_bounded_9 : decode cX7_bounded 9 = .ok (.bipush 99, 2) := by decide +kernel
theorem dX7_bounded_11 : decode cX7_bounded 11 = .ok (.if_icmp .le 8, 3) := by decide +kernel
theorem dX7_bounded_14 : decode cX7_bounded 14 = .ok (.bipush 99, 2) := by decide +kernel
theorem dX7_bounded_16 : decode cX7_bounded 16 = .ok (.goto 4, 3) := by decide +kernel
theorem dX7_bounded_19 : decode cX7_bounded 19 = .ok (.iload_n 0, 1) := by decide +kernel
theorem dX7_bounded_20 : decode cX7_bounded 20 = .ok (.ireturn, 1) := by decide +kernel
theorem dX7_changes_0 : decode cX7_changes 0 = .ok (.iload_n 2, 1) := by decide +kernel
theorem dX7_changes_1 : decode cX7_changes 1 = .ok (.ifCond .eq 20, 3) := by decide +kernel
theorem dX7_changes_4 : decode cX7_changes 4 = .ok (.aload_n 0, 1) := by decide +kernel
theorem dX7_changes_5 : decode cX7_changes 5 = .ok (.getfield 32, 3) := by decide +kernel
theorem dX7_changes_8 : decode cX7_changes 8 = .ok (.iload_n 1, 1) := by decide +kernel
theorem dX7_changes_9 : decode cX7_changes 9 = .ok (.iaload, 1) := by decide +kernel
theorem dX7_changes_10 : decode cX7_changes 10 = .ok (.iconst 2, 1) := by decide +kernel
theorem dX7_changes_11 : decode cX7_changes 11 = .ok (.if_icmp .ne 8, 3) := by decide +kernel
theorem dX7_changes_14 : decode cX7_changes 14 = .ok (.bipush 10, 2) := by decide +kernel
theorem dX7_changes_16 : decode cX7_changes 16 = .ok (.goto 4, 3) := by decide +kernel
theorem dX7_changes_19 : decode cX7_changes 19 = .ok (.iconst 5, 1) := by decide +kernel
theorem dX7_changes_20 : decode cX7_changes 20 = .ok (.ireturn, 1) := by decide +kernel
theorem dX7_changes_21 : decode cX7_changes 21 = .ok (.aload_n 0, 1) := by decide +kernel
theorem dX7_changes_22 : decode cX7_changes 22 = .ok (.getfield 32, 3) := by decide +kernel
theorem dX7_changes_25 : decode cX7_changes 25 = .ok (.iload_n 1, 1) := by decide +kernel
theorem dX7_changes_26 : decode cX7_changes 26 = .ok (.iaload, 1) := by decide +kernel
theorem dX7_changes_27 : decode cX7_changes 27 = .ok (.iconst 1, 1) := by decide +kernel
theorem dX7_changes_28 : decode cX7_changes 28 = .ok (.if_icmp .ne 23, 3) := by decide +kernel
theorem dX7_changes_31 : decode cX7_changes 31 = .ok (.aload_n 0, 1) := by decide +kernel
theorem dX7_changes_32 : decode cX7_changes 32 = .ok (.getfield 38, 3) := by decide +kernel
theorem dX7_changes_35 : decode cX7_changes 35 = .ok (.iload_n 1, 1) := by decide +kernel
theorem dX7_changes_36 : decode cX7_changes 36 = .ok (.iaload, 1) := by decide +kernel
theorem dX7_changes_37 : decode cX7_changes 37 = .ok (.ifCond .le 14, 3) := by decide +kernel
theorem dX7_changes_40 : decode cX7_changes 40 = .ok (.iconst 1, 1) := by decide +kernel
theorem dX7_changes_41 : decode cX7_changes 41 = .ok (.aload_n 0, 1) := by decide +kernel
theorem dX7_changes_42 : decode cX7_changes 42 = .ok (.getfield 38, 3) := by decide +kernel
theorem dX7_changes_45 : decode cX7_changes 45 = .ok (.iload_n 1, 1) := by decide +kernel
theorem dX7_changes_46 : decode cX7_changes 46 = .ok (.iaload, 1) := by decide +kernel
theorem dX7_changes_47 : decode cX7_changes 47 = .ok (.isub, 1) := by decide +kernel
theorem dX7_changes_48 : decode cX7_changes 48 = .ok (.goto 10, 3) := by decide +kernel
theorem dX7_changes_51 : decode cX7_changes 51 = .ok (.aload_n 0, 1) := by decide +kernel
theorem dX7_changes_52 : decode cX7_changes 52 = .ok (.getfield 38, 3) := by decide +kernel
theorem dX7_changes_55 : decode cX7_changes 55 = .ok (.iload_n 1, 1) := by decide +kernel
theorem dX7_changes_56 : decode cX7_changes 56 = .ok (.iaload, 1) := by decide +kernel
theorem dX7_changes_57 : decode cX7_changes 57 = .ok (.ineg, 1) := by decide +kernel
theorem dX7_changes_58 : decode cX7_changes 58 = .ok (.ireturn, 1) := by decide +kernel
theorem dX7_goMile_0 : decode cX7_goMile 0 = .ok (.iconst 0, 1) := by decide +kernel
theorem dX7_goMile_1 : decode cX7_goMile 1 = .ok (.istore_n 3, 1) := by decide +kernel
theorem dX7_goMile_2 : decode cX7_goMile 2 = .ok (.iload_n 3, 1) := by decide +kernel
theorem dX7_goMile_3 : decode cX7_goMile 3 = .ok (.aload_n 0, 1) := by decide +kernel
theorem dX7_goMile_4 : decode cX7_goMile 4 = .ok (.getfield 81, 3) := by decide +kernel
theorem dX7_goMile_7 : decode cX7_goMile 7 = .ok (.if_icmp .ge 31, 3) := by decide +kernel
theorem dX7_goMile_10 : decode cX7_goMile 10 = .ok (.aload_n 0, 1) := by decide +kernel
theorem dX7_goMile_11 : decode cX7_goMile 11 = .ok (.getfield 50, 3) := by decide +kernel
theorem dX7_goMile_14 : decode cX7_goMile 14 = .ok (.iload_n 3, 1) := by decide +kernel
theorem dX7_goMile_15 : decode cX7_goMile 15 = .ok (.aload_n 0, 1) := by decide +kernel
theorem dX7_goMile_16 : decode cX7_goMile 16 = .ok (.getfield 50, 3) := by decide +kernel
theorem dX7_goMile_19 : decode cX7_goMile 19 = .ok (.iload_n 3, 1) := by decide +kernel
theorem dX7_goMile_20 : decode cX7_goMile 20 = .ok (.iaload, 1) := by decide +kernel
theorem dX7_goMile_21 : decode cX7_goMile 21 = .ok (.aload_n 0, 1) := by decide +kernel
theorem dX7_goMile_22 : decode cX7_goMile 22 = .ok (.iload_n 3, 1) := by decide +kernel
theorem dX7_goMile_23 : decode cX7_goMile 23 = .ok (.iload_n 2, 1) := by decide +kernel
theorem dX7_goMile_24 : decode cX7_goMile 24 = .ok (.invokevirtual 143, 3) := by decide +kernel
theorem dX7_goMile_27 : decode cX7_goMile 27 = .ok (.iadd, 1) := by decide +kernel
theorem dX7_goMile_28 : decode cX7_goMile 28 = .ok (.invokestatic 147, 3) := by decide +kernel
theorem dX7_goMile_31 : decode cX7_goMile 31 = .ok (.iastore, 1) := by decide +kernel
theorem dX7_goMile_32 : decode cX7_goMile 32 = .ok (.iinc 3 1, 3) := by decide +kernel
theorem dX7_goMile_35 : decode cX7_goMile 35 = .ok (.goto (-33), 3) := by decide +kernel
theorem dX7_goMile_38 : decode cX7_goMile 38 = .ok (.aload_n 0, 1) := by decide +kernel
theorem dX7_goMile_39 : decode cX7_goMile 39 = .ok (.getfield 26, 3) := by decide +kernel
theorem dX7_goMile_42 : decode cX7_goMile 42 = .ok (.iload_n 1, 1) := by decide +kernel
theorem dX7_goMile_43 : decode cX7_goMile 43 = .ok (.iaload, 1) := by decide +kernel
theorem dX7_goMile_44 : decode cX7_goMile 44 = .ok (.bipush (-9), 2) := by decide +kernel
theorem dX7_goMile_46 : decode cX7_goMile 46 = .ok (.if_icmp .eq 53, 3) := by decide +kernel
theorem dX7_goMile_49 : decode cX7_goMile 49 = .ok (.aload_n 0, 1) := by decide +kernel
theorem dX7_goMile_50 : decode cX7_goMile 50 = .ok (.getfield 50, 3) := by decide +kernel
theorem dX7_goMile_53 : decode cX7_goMile 53 = .ok (.aload_n 0, 1) := by decide +kernel
theorem dX7_goMile_54 : decode cX7_goMile 54 = .ok (.getfield 26, 3) := by decide +kernel
theorem dX7_goMile_57 : decode cX7_goMile 57 = .ok (.iload_n 1, 1) := by decide +kernel
theorem dX7_goMile_58 : decode cX7_goMile 58 = .ok (.iaload, 1) := by decide +kernel
theorem dX7_goMile_59 : decode cX7_goMile 59 = .ok (.iaload, 1) := by decide +kernel
theorem dX7_goMile_60 : decode cX7_goMile 60 = .ok (.aload_n 0, 1) := by decide +kernel
theorem dX7_goMile_61 : decode cX7_goMile 61 = .ok (.getfield 50, 3) := by decide +kernel
theorem dX7_goMile_64 : decode cX7_goMile 64 = .ok (.aload_n 0, 1) := by decide +kernel
theorem dX7_goMile_65 : decode cX7_goMile 65 = .ok (.getfield 29, 3) := by decide +kernel
theorem dX7_goMile_68 : decode cX7_goMile 68 = .ok (.iload_n 1, 1) := by decide +kernel
theorem dX7_goMile_69 : decode cX7_goMile 69 = .ok (.iaload, 1) := by decide +kernel
theorem dX7_goMile_70 : decode cX7_goMile 70 = .ok (.iaload, 1) := by decide +kernel
theorem dX7_goMile_71 : decode cX7_goMile 71 = .ok (.iadd, 1) := by decide +kernel
theorem dX7_goMile_72 : decode cX7_goMile 72 = .ok (.iconst 2, 1) := by decide +kernel
theorem dX7_goMile_73 : decode cX7_goMile 73 = .ok (.idiv, 1) := by decide +kernel
theorem dX7_goMile_74 : decode cX7_goMile 74 = .ok (.istore_n 3, 1) := by decide +kernel
theorem dX7_goMile_75 : decode cX7_goMile 75 = .ok (.aload_n 0, 1) := by decide +kernel
theorem dX7_goMile_76 : decode cX7_goMile 76 = .ok (.getfield 50, 3) := by decide +kernel
theorem dX7_goMile_79 : decode cX7_goMile 79 = .ok (.aload_n 0, 1) := by decide +kernel
theorem dX7_goMile_80 : decode cX7_goMile 80 = .ok (.getfield 26, 3) := by decide +kernel
theorem dX7_goMile_83 : decode cX7_goMile 83 = .ok (.iload_n 1, 1) := by decide +kernel
theorem dX7_goMile_84 : decode cX7_goMile 84 = .ok (.iaload, 1) := by decide +kernel
theorem dX7_goMile_85 : decode cX7_goMile 85 = .ok (.iload_n 3, 1) := by decide +kernel
theorem dX7_goMile_86 : decode cX7_goMile 86 = .ok (.iastore, 1) := by decide +kernel
theorem dX7_goMile_87 : decode cX7_goMile 87 = .ok (.aload_n 0, 1) := by decide +kernel
theorem dX7_goMile_88 : decode cX7_goMile 88 = .ok (.getfield 50, 3) := by decide +kernel
theorem dX7_goMile_91 : decode cX7_goMile 91 = .ok (.aload_n 0, 1) := by decide +kernel
theorem dX7_goMile_92 : decode cX7_goMile 92 = .ok (.getfield 29, 3) := by decide +kernel
theorem dX7_goMile_95 : decode cX7_goMile 95 = .ok (.iload_n 1, 1) := by decide +kernel
theorem dX7_goMile_96 : decode cX7_goMile 96 = .ok (.iaload, 1) := by decide +kernel
theorem dX7_goMile_97 : decode cX7_goMile 97 = .ok (.iload_n 3, 1) := by decide +kernel
theorem dX7_goMile_98 : decode cX7_goMile 98 = .ok (.iastore, 1) := by decide +kernel
theorem dX7_goMile_99 : decode cX7_goMile 99 = .ok (.return_, 1) := by decide +kernel
theorem dX7_begin_0 : decode cX7_begin 0 = .ok (.iconst 0, 1) := by decide +kernel
theorem dX7_begin_1 : decode cX7_begin 1 = .ok (.istore_n 1, 1) := by decide +kernel
theorem dX7_begin_2 : decode cX7_begin 2 = .ok (.iload_n 1, 1) := by decide +kernel
theorem dX7_begin_3 : decode cX7_begin 3 = .ok (.aload_n 0, 1) := by decide +kernel
theorem dX7_begin_4 : decode cX7_begin 4 = .ok (.getfield 81, 3) := by decide +kernel
theorem dX7_begin_7 : decode cX7_begin 7 = .ok (.if_icmp .ge 21, 3) := by decide +kernel
theorem dX7_begin_10 : decode cX7_begin 10 = .ok (.aload_n 0, 1) := by decide +kernel
theorem dX7_begin_11 : decode cX7_begin 11 = .ok (.getfield 50, 3) := by decide +kernel
theorem dX7_begin_14 : decode cX7_begin 14 = .ok (.iload_n 1, 1) := by decide +kernel
theorem dX7_begin_15 : decode cX7_begin 15 = .ok (.aload_n 0, 1) := by decide +kernel
theorem dX7_begin_16 : decode cX7_begin 16 = .ok (.getfield 35, 3) := by decide +kernel
theorem dX7_begin_19 : decode cX7_begin 19 = .ok (.iload_n 1, 1) := by decide +kernel
theorem dX7_begin_20 : decode cX7_begin 20 = .ok (.iaload, 1) := by decide +kernel
theorem dX7_begin_21 : decode cX7_begin 21 = .ok (.iastore, 1) := by decide +kernel
theorem dX7_begin_22 : decode cX7_begin 22 = .ok (.iinc 1 1, 3) := by decide +kernel
theorem dX7_begin_25 : decode cX7_begin 25 = .ok (.goto (-23), 3) := by decide +kernel
theorem dX7_begin_28 : decode cX7_begin 28 = .ok (.return_, 1) := by decide +kernel
theorem dX7_goTo_0 : decode cX7_goTo 0 = .ok (.aload_n 0, 1) := by decide +kernel
theorem dX7_goTo_1 : decode cX7_goTo 1 = .ok (.invokevirtual 150, 3) := by decide +kernel
theorem dX7_goTo_4 : decode cX7_goTo 4 = .ok (.iconst 0, 1) := by decide +kernel
theorem dX7_goTo_5 : decode cX7_goTo 5 = .ok (.istore_n 2, 1) := by decide +kernel
theorem dX7_goTo_6 : decode cX7_goTo 6 = .ok (.iload_n 2, 1) := by decide +kernel
theorem dX7_goTo_7 : decode cX7_goTo 7 = .ok (.iload_n 1, 1) := by decide +kernel
theorem dX7_goTo_8 : decode cX7_goTo 8 = .ok (.if_icmp .ge 20, 3) := by decide +kernel
theorem dX7_goTo_11 : decode cX7_goTo 11 = .ok (.aload_n 0, 1) := by decide +kernel
theorem dX7_goTo_12 : decode cX7_goTo 12 = .ok (.iload_n 2, 1) := by decide +kernel
theorem dX7_goTo_13 : decode cX7_goTo 13 = .ok (.aload_n 0, 1) := by decide +kernel
theorem dX7_goTo_14 : decode cX7_goTo 14 = .ok (.getfield 22, 3) := by decide +kernel
theorem dX7_goTo_17 : decode cX7_goTo 17 = .ok (.iload_n 2, 1) := by decide +kernel
theorem dX7_goTo_18 : decode cX7_goTo 18 = .ok (.baload, 1) := by decide +kernel
theorem dX7_goTo_19 : decode cX7_goTo 19 = .ok (.invokevirtual 153, 3) := by decide +kernel
theorem dX7_goTo_22 : decode cX7_goTo 22 = .ok (.iinc 2 1, 3) := by decide +kernel
theorem dX7_goTo_25 : decode cX7_goTo 25 = .ok (.goto (-19), 3) := by decide +kernel
theorem dX7_goTo_28 : decode cX7_goTo 28 = .ok (.return_, 1) := by decide +kernel
theorem dX7_dueBy_0 : decode cX7_dueBy 0 = .ok (.iload_n 1, 1) := by decide +kernel
theorem dX7_dueBy_1 : decode cX7_dueBy 1 = .ok (.aload_n 0, 1) := by decide +kernel
theorem dX7_dueBy_2 : decode cX7_dueBy 2 = .ok (.getfield 117, 3) := by decide +kernel
theorem dX7_dueBy_5 : decode cX7_dueBy 5 = .ok (.if_icmp .ge 7, 3) := by decide +kernel
theorem dX7_dueBy_8 : decode cX7_dueBy 8 = .ok (.iconst 0, 1) := by decide +kernel
theorem dX7_dueBy_9 : decode cX7_dueBy 9 = .ok (.goto 16, 3) := by decide +kernel
theorem dX7_dueBy_12 : decode cX7_dueBy 12 = .ok (.iload_n 1, 1) := by decide +kernel
theorem dX7_dueBy_13 : decode cX7_dueBy 13 = .ok (.aload_n 0, 1) := by decide +kernel
theorem dX7_dueBy_14 : decode cX7_dueBy 14 = .ok (.getfield 120, 3) := by decide +kernel
theorem dX7_dueBy_17 : decode cX7_dueBy 17 = .ok (.if_icmp .ge 7, 3) := by decide +kernel
theorem dX7_dueBy_20 : decode cX7_dueBy 20 = .ok (.iconst 1, 1) := by decide +kernel
theorem dX7_dueBy_21 : decode cX7_dueBy 21 = .ok (.goto 4, 3) := by decide +kernel
theorem dX7_dueBy_24 : decode cX7_dueBy 24 = .ok (.iconst 2, 1) := by decide +kernel
theorem dX7_dueBy_25 : decode cX7_dueBy 25 = .ok (.ireturn, 1) := by decide +kernel
theorem dX7_regret_0 : decode cX7_regret 0 = .ok (.aload_n 0, 1) := by decide +kernel
theorem dX7_regret_1 : decode cX7_regret 1 = .ok (.iload_n 1, 1) := by decide +kernel
theorem dX7_regret_2 : decode cX7_regret 2 = .ok (.invokevirtual 137, 3) := by decide +kernel
theorem dX7_regret_5 : decode cX7_regret 5 = .ok (.ifCond .ne 5, 3) := by decide +kernel
theorem dX7_regret_8 : decode cX7_regret 8 = .ok (.iconst (-1), 1) := by decide +kernel
theorem dX7_regret_9 : decode cX7_regret 9 = .ok (.ireturn, 1) := by decide +kernel
theorem dX7_regret_10 : decode cX7_regret 10 = .ok (.iload_n 2, 1) := by decide +kernel
theorem dX7_regret_11 : decode cX7_regret 11 = .ok (.iconst 0, 1) := by decide +kernel
theorem dX7_regret_12 : decode cX7_regret 12 = .ok (.aload_n 0, 1) := by decide +kernel
theorem dX7_regret_13 : decode cX7_regret 13 = .ok (.getfield 84, 3) := by decide +kernel
theorem dX7_regret_16 : decode cX7_regret 16 = .ok (.invokestatic 77, 3) := by decide +kernel
theorem dX7_regret_19 : decode cX7_regret 19 = .ok (.ifCond .ne 6, 3) := by decide +kernel
theorem dX7_regret_22 : decode cX7_regret 22 = .ok (.bipush (-2), 2) := by decide +kernel
theorem dX7_regret_24 : decode cX7_regret 24 = .ok (.ireturn, 1) := by decide +kernel
theorem dX7_regret_25 : decode cX7_regret 25 = .ok (.aload_n 0, 1) := by decide +kernel
theorem dX7_regret_26 : decode cX7_regret 26 = .ok (.iload_n 2, 1) := by decide +kernel
theorem dX7_regret_27 : decode cX7_regret 27 = .ok (.invokevirtual 157, 3) := by decide +kernel
theorem dX7_regret_30 : decode cX7_regret 30 = .ok (.aload_n 0, 1) := by decide +kernel
theorem dX7_regret_31 : decode cX7_regret 31 = .ok (.getfield 50, 3) := by decide +kernel
theorem dX7_regret_34 : decode cX7_regret 34 = .ok (.iload_n 1, 1) := by decide +kernel
theorem dX7_regret_35 : decode cX7_regret 35 = .ok (.iaload, 1) := by decide +kernel
theorem dX7_regret_36 : decode cX7_regret 36 = .ok (.ireturn, 1) := by decide +kernel
theorem dX7_due_0 : decode cX7_due 0 = .ok (.aload_n 0, 1) := by decide +kernel
theorem dX7_due_1 : decode cX7_due 1 = .ok (.iload_n 1, 1) := by decide +kernel
theorem dX7_due_2 : decode cX7_due 2 = .ok (.iload_n 2, 1) := by decide +kernel
theorem dX7_due_3 : decode cX7_due 3 = .ok (.invokevirtual 161, 3) := by decide +kernel
theorem dX7_due_6 : decode cX7_due 6 = .ok (.istore_n 3, 1) := by decide +kernel
theorem dX7_due_7 : decode cX7_due 7 = .ok (.iload_n 3, 1) := by decide +kernel
theorem dX7_due_8 : decode cX7_due 8 = .ok (.ifCond .ge 7, 3) := by decide +kernel
theorem dX7_due_11 : decode cX7_due 11 = .ok (.iload_n 3, 1) := by decide +kernel
theorem dX7_due_12 : decode cX7_due 12 = .ok (.goto 8, 3) := by decide +kernel
theorem dX7_due_15 : decode cX7_due 15 = .ok (.aload_n 0, 1) := by decide +kernel
theorem dX7_due_16 : decode cX7_due 16 = .ok (.iload_n 3, 1) := by decide +kernel
theorem dX7_due_17 : decode cX7_due 17 = .ok (.invokevirtual 165, 3) := by decide +kernel
theorem dX7_due_20 : decode cX7_due 20 = .ok (.ireturn, 1) := by decide +kernel
theorem dX7_layDues_0 : decode cX7_layDues 0 = .ok (.aload_n 0, 1) := by decide +kernel
theorem dX7_layDues_1 : decode cX7_layDues 1 = .ok (.invokevirtual 150, 3) := by decide +kernel
theorem dX7_layDues_4 : decode cX7_layDues 4 = .ok (.iconst 0, 1) := by decide +kernel
theorem dX7_layDues_5 : decode cX7_layDues 5 = .ok (.istore_n 1, 1) := by decide +kernel
theorem dX7_layDues_6 : decode cX7_layDues 6 = .ok (.iload_n 1, 1) := by decide +kernel
theorem dX7_layDues_7 : decode cX7_layDues 7 = .ok (.aload_n 0, 1) := by decide +kernel
theorem dX7_layDues_8 : decode cX7_layDues 8 = .ok (.getfield 84, 3) := by decide +kernel
theorem dX7_layDues_11 : decode cX7_layDues 11 = .ok (.if_icmp .ge 56, 3) := by decide +kernel
theorem dX7_layDues_14 : decode cX7_layDues 14 = .ok (.iconst 0, 1) := by decide +kernel
theorem dX7_layDues_15 : decode cX7_layDues 15 = .ok (.istore_n 2, 1) := by decide +kernel
theorem dX7_layDues_16 : decode cX7_layDues 16 = .ok (.iload_n 2, 1) := by decide +kernel
theorem dX7_layDues_17 : decode cX7_layDues 17 = .ok (.aload_n 0, 1) := by decide +kernel
theorem dX7_layDues_18 : decode cX7_layDues 18 = .ok (.getfield 81, 3) := by decide +kernel
theorem dX7_layDues_21 : decode cX7_layDues 21 = .ok (.if_icmp .ge 29, 3) := by decide +kernel
theorem dX7_layDues_24 : decode cX7_layDues 24 = .ok (.aload_n 0, 1) := by decide +kernel
theorem dX7_layDues_25 : decode cX7_layDues 25 = .ok (.getfield 53, 3) := by decide +kernel
theorem dX7_layDues_28 : decode cX7_layDues 28 = .ok (.iconst 4, 1) := by decide +kernel
theorem dX7_layDues_29 : decode cX7_layDues 29 = .ok (.iload_n 1, 1) := by decide +kernel
theorem dX7_layDues_30 : decode cX7_layDues 30 = .ok (.imul, 1) := by decide +kernel
theorem dX7_layDues_31 : decode cX7_layDues 31 = .ok (.iload_n 2, 1) := by decide +kernel
theorem dX7_layDues_32 : decode cX7_layDues 32 = .ok (.iadd, 1) := by decide +kernel
theorem dX7_layDues_33 : decode cX7_layDues 33 = .ok (.aload_n 0, 1) := by decide +kernel
theorem dX7_layDues_34 : decode cX7_layDues 34 = .ok (.aload_n 0, 1) := by decide +kernel
theorem dX7_layDues_35 : decode cX7_layDues 35 = .ok (.getfield 50, 3) := by decide +kernel
theorem dX7_layDues_38 : decode cX7_layDues 38 = .ok (.iload_n 2, 1) := by decide +kernel
theorem dX7_layDues_39 : decode cX7_layDues 39 = .ok (.iaload, 1) := by decide +kernel
theorem dX7_layDues_40 : decode cX7_layDues 40 = .ok (.invokevirtual 165, 3) := by decide +kernel
theorem dX7_layDues_43 : decode cX7_layDues 43 = .ok (.iastore, 1) := by decide +kernel
theorem dX7_layDues_44 : decode cX7_layDues 44 = .ok (.iinc 2 1, 3) := by decide +kernel
theorem dX7_layDues_47 : decode cX7_layDues 47 = .ok (.goto (-31), 3) := by decide +kernel
theorem dX7_layDues_50 : decode cX7_layDues 50 = .ok (.aload_n 0, 1) := by decide +kernel
theorem dX7_layDues_51 : decode cX7_layDues 51 = .ok (.iload_n 1, 1) := by decide +kernel
theorem dX7_layDues_52 : decode cX7_layDues 52 = .ok (.aload_n 0, 1) := by decide +kernel
theorem dX7_layDues_53 : decode cX7_layDues 53 = .ok (.getfield 22, 3) := by decide +kernel
theorem dX7_layDues_56 : decode cX7_layDues 56 = .ok (.iload_n 1, 1) := by decide +kernel
theorem dX7_layDues_57 : decode cX7_layDues 57 = .ok (.baload, 1) := by decide +kernel
theorem dX7_layDues_58 : decode cX7_layDues 58 = .ok (.invokevirtual 153, 3) := by decide +kernel
theorem dX7_layDues_61 : decode cX7_layDues 61 = .ok (.iinc 1 1, 3) := by decide +kernel
theorem dX7_layDues_64 : decode cX7_layDues 64 = .ok (.goto (-58), 3) := by decide +kernel
theorem dX7_layDues_67 : decode cX7_layDues 67 = .ok (.return_, 1) := by decide +kernel
theorem dX7_seatedIn_0 : decode cX7_seatedIn 0 = .ok (.iconst 0, 1) := by decide +kernel
theorem dX7_seatedIn_1 : decode cX7_seatedIn 1 = .ok (.istore_n 3, 1) := by decide +kernel
theorem dX7_seatedIn_2 : decode cX7_seatedIn 2 = .ok (.iconst 0, 1) := by decide +kernel
theorem dX7_seatedIn_3 : decode cX7_seatedIn 3 = .ok (.istore 4, 2) := by decide +kernel
theorem dX7_seatedIn_5 : decode cX7_seatedIn 5 = .ok (.iload 4, 2) := by decide +kernel
theorem dX7_seatedIn_7 : decode cX7_seatedIn 7 = .ok (.aload_n 0, 1) := by decide +kernel
theorem dX7_seatedIn_8 : decode cX7_seatedIn 8 = .ok (.getfield 81, 3) := by decide +kernel
theorem dX7_seatedIn_11 : decode cX7_seatedIn 11 = .ok (.if_icmp .ge 30, 3) := by decide +kernel
theorem dX7_seatedIn_14 : decode cX7_seatedIn 14 = .ok (.iload_n 3, 1) := by decide +kernel
theorem dX7_seatedIn_15 : decode cX7_seatedIn 15 = .ok (.aload_n 0, 1) := by decide +kernel
theorem dX7_seatedIn_16 : decode cX7_seatedIn 16 = .ok (.getfield 16, 3) := by decide +kernel
theorem dX7_seatedIn_19 : decode cX7_seatedIn 19 = .ok (.iload_n 1, 1) := by decide +kernel
theorem dX7_seatedIn_20 : decode cX7_seatedIn 20 = .ok (.iload 4, 2) := by decide +kernel
theorem dX7_seatedIn_22 : decode cX7_seatedIn 22 = .ok (.iadd, 1) := by decide +kernel
theorem dX7_seatedIn_23 : decode cX7_seatedIn 23 = .ok (.iaload, 1) := by decide +kernel
theorem dX7_seatedIn_24 : decode cX7_seatedIn 24 = .ok (.iload_n 2, 1) := by decide +kernel
theorem dX7_seatedIn_25 : decode cX7_seatedIn 25 = .ok (.if_icmp .ne 7, 3) := by decide +kernel
theorem dX7_seatedIn_28 : decode cX7_seatedIn 28 = .ok (.iconst 1, 1) := by decide +kernel
theorem dX7_seatedIn_29 : decode cX7_seatedIn 29 = .ok (.goto 4, 3) := by decide +kernel
theorem dX7_seatedIn_32 : decode cX7_seatedIn 32 = .ok (.iconst 0, 1) := by decide +kernel
theorem dX7_seatedIn_33 : decode cX7_seatedIn 33 = .ok (.iadd, 1) := by decide +kernel
theorem dX7_seatedIn_34 : decode cX7_seatedIn 34 = .ok (.istore_n 3, 1) := by decide +kernel
theorem dX7_seatedIn_35 : decode cX7_seatedIn 35 = .ok (.iinc 4 1, 3) := by decide +kernel
theorem dX7_seatedIn_38 : decode cX7_seatedIn 38 = .ok (.goto (-33), 3) := by decide +kernel
theorem dX7_seatedIn_41 : decode cX7_seatedIn 41 = .ok (.iload_n 3, 1) := by decide +kernel
theorem dX7_seatedIn_42 : decode cX7_seatedIn 42 = .ok (.ireturn, 1) := by decide +kernel
theorem dX7_wrongBy_0 : decode cX7_wrongBy 0 = .ok (.iconst 0, 1) := by decide +kernel
theorem dX7_wrongBy_1 : decode cX7_wrongBy 1 = .ok (.istore_n 2, 1) := by decide +kernel
theorem dX7_wrongBy_2 : decode cX7_wrongBy 2 = .ok (.iload_n 2, 1) := by decide +kernel
theorem dX7_wrongBy_3 : decode cX7_wrongBy 3 = .ok (.aload_n 0, 1) := by decide +kernel
theorem dX7_wrongBy_4 : decode cX7_wrongBy 4 = .ok (.getfield 84, 3) := by decide +kernel
theorem dX7_wrongBy_7 : decode cX7_wrongBy 7 = .ok (.if_icmp .ge 46, 3) := by decide +kernel
theorem dX7_wrongBy_10 : decode cX7_wrongBy 10 = .ok (.iconst 0, 1) := by decide +kernel
theorem dX7_wrongBy_11 : decode cX7_wrongBy 11 = .ok (.istore_n 3, 1) := by decide +kernel
theorem dX7_wrongBy_12 : decode cX7_wrongBy 12 = .ok (.iload_n 3, 1) := by decide +kernel
theorem dX7_wrongBy_13 : decode cX7_wrongBy 13 = .ok (.iconst 3, 1) := by decide +kernel
theorem dX7_wrongBy_14 : decode cX7_wrongBy 14 = .ok (.if_icmp .ge 33, 3) := by decide +kernel
theorem dX7_wrongBy_17 : decode cX7_wrongBy 17 = .ok (.aload_n 0, 1) := by decide +kernel
theorem dX7_wrongBy_18 : decode cX7_wrongBy 18 = .ok (.iload_n 1, 1) := by decide +kernel
theorem dX7_wrongBy_19 : decode cX7_wrongBy 19 = .ok (.iload_n 2, 1) := by decide +kernel
theorem dX7_wrongBy_20 : decode cX7_wrongBy 20 = .ok (.aload_n 0, 1) := by decide +kernel
theorem dX7_wrongBy_21 : decode cX7_wrongBy 21 = .ok (.getfield 81, 3) := by decide +kernel
theorem dX7_wrongBy_24 : decode cX7_wrongBy 24 = .ok (.imul, 1) := by decide +kernel
theorem dX7_wrongBy_25 : decode cX7_wrongBy 25 = .ok (.iadd, 1) := by decide +kernel
theorem dX7_wrongBy_26 : decode cX7_wrongBy 26 = .ok (.iload_n 3, 1) := by decide +kernel
theorem dX7_wrongBy_27 : decode cX7_wrongBy 27 = .ok (.invokevirtual 168, 3) := by decide +kernel
theorem dX7_wrongBy_30 : decode cX7_wrongBy 30 = .ok (.aload_n 0, 1) := by decide +kernel
theorem dX7_wrongBy_31 : decode cX7_wrongBy 31 = .ok (.getfield 19, 3) := by decide +kernel
theorem dX7_wrongBy_34 : decode cX7_wrongBy 34 = .ok (.iload_n 3, 1) := by decide +kernel
theorem dX7_wrongBy_35 : decode cX7_wrongBy 35 = .ok (.iaload, 1) := by decide +kernel
theorem dX7_wrongBy_36 : decode cX7_wrongBy 36 = .ok (.if_icmp .le 5, 3) := by decide +kernel
theorem dX7_wrongBy_39 : decode cX7_wrongBy 39 = .ok (.iload_n 2, 1) := by decide +kernel
theorem dX7_wrongBy_40 : decode cX7_wrongBy 40 = .ok (.ireturn, 1) := by decide +kernel
theorem dX7_wrongBy_41 : decode cX7_wrongBy 41 = .ok (.iinc 3 1, 3) := by decide +kernel
theorem dX7_wrongBy_44 : decode cX7_wrongBy 44 = .ok (.goto (-32), 3) := by decide +kernel
theorem dX7_wrongBy_47 : decode cX7_wrongBy 47 = .ok (.iinc 2 1, 3) := by decide +kernel
theorem dX7_wrongBy_50 : decode cX7_wrongBy 50 = .ok (.goto (-48), 3) := by decide +kernel
theorem dX7_wrongBy_53 : decode cX7_wrongBy 53 = .ok (.bipush (-9), 2) := by decide +kernel
theorem dX7_wrongBy_55 : decode cX7_wrongBy 55 = .ok (.ireturn, 1) := by decide +kernel
theorem dX7_changesBy_0 : decode cX7_changesBy 0 = .ok (.iconst 0, 1) := by decide +kernel
theorem dX7_changesBy_1 : decode cX7_changesBy 1 = .ok (.istore_n 2, 1) := by decide +kernel
theorem dX7_changesBy_2 : decode cX7_changesBy 2 = .ok (.aload_n 0, 1) := by decide +kernel
theorem dX7_changesBy_3 : decode cX7_changesBy 3 = .ok (.getfield 81, 3) := by decide +kernel
theorem dX7_changesBy_6 : decode cX7_changesBy 6 = .ok (.istore_n 3, 1) := by decide +kernel
theorem dX7_changesBy_7 : decode cX7_changesBy 7 = .ok (.iload_n 3, 1) := by decide +kernel
theorem dX7_changesBy_8 : decode cX7_changesBy 8 = .ok (.aload_n 0, 1) := by decide +kernel
theorem dX7_changesBy_9 : decode cX7_changesBy 9 = .ok (.getfield 84, 3) := by decide +kernel
theorem dX7_changesBy_12 : decode cX7_changesBy 12 = .ok (.aload_n 0, 1) := by decide +kernel
theorem dX7_changesBy_13 : decode cX7_changesBy 13 = .ok (.getfield 81, 3) := by decide +kernel
theorem dX7_changesBy_16 : decode cX7_changesBy 16 = .ok (.imul, 1) := by decide +kernel
theorem dX7_changesBy_17 : decode cX7_changesBy 17 = .ok (.if_icmp .ge 41, 3) := by decide +kernel
theorem dX7_changesBy_20 : decode cX7_changesBy 20 = .ok (.iload_n 2, 1) := by decide +kernel
theorem dX7_changesBy_21 : decode cX7_changesBy 21 = .ok (.aload_n 0, 1) := by decide +kernel
theorem dX7_changesBy_22 : decode cX7_changesBy 22 = .ok (.getfield 16, 3) := by decide +kernel
theorem dX7_changesBy_25 : decode cX7_changesBy 25 = .ok (.iload_n 1, 1) := by decide +kernel
theorem dX7_changesBy_26 : decode cX7_changesBy 26 = .ok (.iload_n 3, 1) := by decide +kernel
theorem dX7_changesBy_27 : decode cX7_changesBy 27 = .ok (.iadd, 1) := by decide +kernel
theorem dX7_changesBy_28 : decode cX7_changesBy 28 = .ok (.iaload, 1) := by decide +kernel
theorem dX7_changesBy_29 : decode cX7_changesBy 29 = .ok (.aload_n 0, 1) := by decide +kernel
theorem dX7_changesBy_30 : decode cX7_changesBy 30 = .ok (.getfield 16, 3) := by decide +kernel
theorem dX7_changesBy_33 : decode cX7_changesBy 33 = .ok (.iload_n 1, 1) := by decide +kernel
theorem dX7_changesBy_34 : decode cX7_changesBy 34 = .ok (.iload_n 3, 1) := by decide +kernel
theorem dX7_changesBy_35 : decode cX7_changesBy 35 = .ok (.iadd, 1) := by decide +kernel
theorem dX7_changesBy_36 : decode cX7_changesBy 36 = .ok (.aload_n 0, 1) := by decide +kernel
theorem dX7_changesBy_37 : decode cX7_changesBy 37 = .ok (.getfield 81, 3) := by decide +kernel
theorem dX7_changesBy_40 : decode cX7_changesBy 40 = .ok (.isub, 1) := by decide +kernel
theorem dX7_changesBy_41 : decode cX7_changesBy 41 = .ok (.iaload, 1) := by decide +kernel
theorem dX7_changesBy_42 : decode cX7_changesBy 42 = .ok (.if_icmp .ne 7, 3) := by decide +kernel
theorem dX7_changesBy_45 : decode cX7_changesBy 45 = .ok (.iconst 0, 1) := by decide +kernel
theorem dX7_changesBy_46 : decode cX7_changesBy 46 = .ok (.goto 4, 3) := by decide +kernel
theorem dX7_changesBy_49 : decode cX7_changesBy 49 = .ok (.iconst 1, 1) := by decide +kernel
theorem dX7_changesBy_50 : decode cX7_changesBy 50 = .ok (.iadd, 1) := by decide +kernel
theorem dX7_changesBy_51 : decode cX7_changesBy 51 = .ok (.istore_n 2, 1) := by decide +kernel
theorem dX7_changesBy_52 : decode cX7_changesBy 52 = .ok (.iinc 3 1, 3) := by decide +kernel
theorem dX7_changesBy_55 : decode cX7_changesBy 55 = .ok (.goto (-48), 3) := by decide +kernel
theorem dX7_changesBy_58 : decode cX7_changesBy 58 = .ok (.iload_n 2, 1) := by decide +kernel
theorem dX7_changesBy_59 : decode cX7_changesBy 59 = .ok (.ireturn, 1) := by decide +kernel
theorem dX7_lowBy_0 : decode cX7_lowBy 0 = .ok (.iconst 0, 1) := by decide +kernel
theorem dX7_lowBy_1 : decode cX7_lowBy 1 = .ok (.istore_n 2, 1) := by decide +kernel
theorem dX7_lowBy_2 : decode cX7_lowBy 2 = .ok (.iconst 0, 1) := by decide +kernel
theorem dX7_lowBy_3 : decode cX7_lowBy 3 = .ok (.istore_n 3, 1) := by decide +kernel
theorem dX7_lowBy_4 : decode cX7_lowBy 4 = .ok (.iload_n 3, 1) := by decide +kernel
theorem dX7_lowBy_5 : decode cX7_lowBy 5 = .ok (.aload_n 0, 1) := by decide +kernel
theorem dX7_lowBy_6 : decode cX7_lowBy 6 = .ok (.getfield 84, 3) := by decide +kernel
theorem dX7_lowBy_9 : decode cX7_lowBy 9 = .ok (.aload_n 0, 1) := by decide +kernel
theorem dX7_lowBy_10 : decode cX7_lowBy 10 = .ok (.getfield 81, 3) := by decide +kernel
theorem dX7_lowBy_13 : decode cX7_lowBy 13 = .ok (.imul, 1) := by decide +kernel
theorem dX7_lowBy_14 : decode cX7_lowBy 14 = .ok (.if_icmp .ge 54, 3) := by decide +kernel
theorem dX7_lowBy_17 : decode cX7_lowBy 17 = .ok (.aload_n 0, 1) := by decide +kernel
theorem dX7_lowBy_18 : decode cX7_lowBy 18 = .ok (.getfield 16, 3) := by decide +kernel
theorem dX7_lowBy_21 : decode cX7_lowBy 21 = .ok (.iload_n 1, 1) := by decide +kernel
theorem dX7_lowBy_22 : decode cX7_lowBy 22 = .ok (.iload_n 3, 1) := by decide +kernel
theorem dX7_lowBy_23 : decode cX7_lowBy 23 = .ok (.iadd, 1) := by decide +kernel
theorem dX7_lowBy_24 : decode cX7_lowBy 24 = .ok (.iaload, 1) := by decide +kernel
theorem dX7_lowBy_25 : decode cX7_lowBy 25 = .ok (.aload_n 0, 1) := by decide +kernel
theorem dX7_lowBy_26 : decode cX7_lowBy 26 = .ok (.getfield 53, 3) := by decide +kernel
theorem dX7_lowBy_29 : decode cX7_lowBy 29 = .ok (.iconst 4, 1) := by decide +kernel
theorem dX7_lowBy_30 : decode cX7_lowBy 30 = .ok (.iload_n 3, 1) := by decide +kernel
theorem dX7_lowBy_31 : decode cX7_lowBy 31 = .ok (.aload_n 0, 1) := by decide +kernel
theorem dX7_lowBy_32 : decode cX7_lowBy 32 = .ok (.getfield 81, 3) := by decide +kernel
theorem dX7_lowBy_35 : decode cX7_lowBy 35 = .ok (.idiv, 1) := by decide +kernel
theorem dX7_lowBy_36 : decode cX7_lowBy 36 = .ok (.imul, 1) := by decide +kernel
theorem dX7_lowBy_37 : decode cX7_lowBy 37 = .ok (.iload_n 3, 1) := by decide +kernel
theorem dX7_lowBy_38 : decode cX7_lowBy 38 = .ok (.aload_n 0, 1) := by decide +kernel
theorem dX7_lowBy_39 : decode cX7_lowBy 39 = .ok (.getfield 81, 3) := by decide +kernel
theorem dX7_lowBy_42 : decode cX7_lowBy 42 = .ok (.irem, 1) := by decide +kernel
theorem dX7_lowBy_43 : decode cX7_lowBy 43 = .ok (.iadd, 1) := by decide +kernel
theorem dX7_lowBy_44 : decode cX7_lowBy 44 = .ok (.iaload, 1) := by decide +kernel
theorem dX7_lowBy_45 : decode cX7_lowBy 45 = .ok (.isub, 1) := by decide +kernel
theorem dX7_lowBy_46 : decode cX7_lowBy 46 = .ok (.istore 4, 2) := by decide +kernel
theorem dX7_lowBy_48 : decode cX7_lowBy 48 = .ok (.iload_n 2, 1) := by decide +kernel
theorem dX7_lowBy_49 : decode cX7_lowBy 49 = .ok (.iload 4, 2) := by decide +kernel
theorem dX7_lowBy_51 : decode cX7_lowBy 51 = .ok (.ifCond .le 8, 3) := by decide +kernel
theorem dX7_lowBy_54 : decode cX7_lowBy 54 = .ok (.iload 4, 2) := by decide +kernel
theorem dX7_lowBy_56 : decode cX7_lowBy 56 = .ok (.goto 4, 3) := by decide +kernel
theorem dX7_lowBy_59 : decode cX7_lowBy 59 = .ok (.iconst 0, 1) := by decide +kernel
theorem dX7_lowBy_60 : decode cX7_lowBy 60 = .ok (.iadd, 1) := by decide +kernel
theorem dX7_lowBy_61 : decode cX7_lowBy 61 = .ok (.istore_n 2, 1) := by decide +kernel
theorem dX7_lowBy_62 : decode cX7_lowBy 62 = .ok (.iinc 3 1, 3) := by decide +kernel
theorem dX7_lowBy_65 : decode cX7_lowBy 65 = .ok (.goto (-61), 3) := by decide +kernel
theorem dX7_lowBy_68 : decode cX7_lowBy 68 = .ok (.iload_n 2, 1) := by decide +kernel
theorem dX7_lowBy_69 : decode cX7_lowBy 69 = .ok (.ireturn, 1) := by decide +kernel
theorem dX7_aboveBy_0 : decode cX7_aboveBy 0 = .ok (.iconst 0, 1) := by decide +kernel
theorem dX7_aboveBy_1 : decode cX7_aboveBy 1 = .ok (.istore_n 3, 1) := by decide +kernel
theorem dX7_aboveBy_2 : decode cX7_aboveBy 2 = .ok (.iconst 0, 1) := by decide +kernel
theorem dX7_aboveBy_3 : decode cX7_aboveBy 3 = .ok (.istore 4, 2) := by decide +kernel
theorem dX7_aboveBy_5 : decode cX7_aboveBy 5 = .ok (.iload 4, 2) := by decide +kernel
theorem dX7_aboveBy_7 : decode cX7_aboveBy 7 = .ok (.aload_n 0, 1) := by decide +kernel
theorem dX7_aboveBy_8 : decode cX7_aboveBy 8 = .ok (.getfield 84, 3) := by decide +kernel
theorem dX7_aboveBy_11 : decode cX7_aboveBy 11 = .ok (.aload_n 0, 1) := by decide +kernel
theorem dX7_aboveBy_12 : decode cX7_aboveBy 12 = .ok (.getfield 81, 3) := by decide +kernel
theorem dX7_aboveBy_15 : decode cX7_aboveBy 15 = .ok (.imul, 1) := by decide +kernel
theorem dX7_aboveBy_16 : decode cX7_aboveBy 16 = .ok (.if_icmp .ge 67, 3) := by decide +kernel
theorem dX7_aboveBy_19 : decode cX7_aboveBy 19 = .ok (.iload 4, 2) := by decide +kernel
theorem dX7_aboveBy_21 : decode cX7_aboveBy 21 = .ok (.aload_n 0, 1) := by decide +kernel
theorem dX7_aboveBy_22 : decode cX7_aboveBy 22 = .ok (.getfield 81, 3) := by decide +kernel
theorem dX7_aboveBy_25 : decode cX7_aboveBy 25 = .ok (.irem, 1) := by decide +kernel
theorem dX7_aboveBy_26 : decode cX7_aboveBy 26 = .ok (.istore 5, 2) := by decide +kernel
theorem dX7_aboveBy_28 : decode cX7_aboveBy 28 = .ok (.iload_n 3, 1) := by decide +kernel
theorem dX7_aboveBy_29 : decode cX7_aboveBy 29 = .ok (.iload_n 2, 1) := by decide +kernel
theorem dX7_aboveBy_30 : decode cX7_aboveBy 30 = .ok (.bipush (-9), 2) := by decide +kernel
theorem dX7_aboveBy_32 : decode cX7_aboveBy 32 = .ok (.if_icmp .eq 9, 3) := by decide +kernel
theorem dX7_aboveBy_35 : decode cX7_aboveBy 35 = .ok (.iload_n 2, 1) := by decide +kernel
theorem dX7_aboveBy_36 : decode cX7_aboveBy 36 = .ok (.iload 5, 2) := by decide +kernel
theorem dX7_aboveBy_38 : decode cX7_aboveBy 38 = .ok (.if_icmp .ne 36, 3) := by decide +kernel
theorem dX7_aboveBy_41 : decode cX7_aboveBy 41 = .ok (.aload_n 0, 1) := by decide +kernel
theorem dX7_aboveBy_42 : decode cX7_aboveBy 42 = .ok (.getfield 16, 3) := by decide +kernel
theorem dX7_aboveBy_45 : decode cX7_aboveBy 45 = .ok (.iload_n 1, 1) := by decide +kernel
theorem dX7_aboveBy_46 : decode cX7_aboveBy 46 = .ok (.iload 4, 2) := by decide +kernel
theorem dX7_aboveBy_48 : decode cX7_aboveBy 48 = .ok (.iadd, 1) := by decide +kernel
theorem dX7_aboveBy_49 : decode cX7_aboveBy 49 = .ok (.iaload, 1) := by decide +kernel
theorem dX7_aboveBy_50 : decode cX7_aboveBy 50 = .ok (.aload_n 0, 1) := by decide +kernel
theorem dX7_aboveBy_51 : decode cX7_aboveBy 51 = .ok (.getfield 53, 3) := by decide +kernel
theorem dX7_aboveBy_54 : decode cX7_aboveBy 54 = .ok (.iconst 4, 1) := by decide +kernel
theorem dX7_aboveBy_55 : decode cX7_aboveBy 55 = .ok (.iload 4, 2) := by decide +kernel
theorem dX7_aboveBy_57 : decode cX7_aboveBy 57 = .ok (.aload_n 0, 1) := by decide +kernel
theorem dX7_aboveBy_58 : decode cX7_aboveBy 58 = .ok (.getfield 81, 3) := by decide +kernel
theorem dX7_aboveBy_61 : decode cX7_aboveBy 61 = .ok (.idiv, 1) := by decide +kernel
theorem dX7_aboveBy_62 : decode cX7_aboveBy 62 = .ok (.imul, 1) := by decide +kernel
theorem dX7_aboveBy_63 : decode cX7_aboveBy 63 = .ok (.iload 5, 2) := by decide +kernel
theorem dX7_aboveBy_65 : decode cX7_aboveBy 65 = .ok (.iadd, 1) := by decide +kernel
theorem dX7_aboveBy_66 : decode cX7_aboveBy 66 = .ok (.iaload, 1) := by decide +kernel
theorem dX7_aboveBy_67 : decode cX7_aboveBy 67 = .ok (.if_icmp .ge 7, 3) := by decide +kernel
theorem dX7_aboveBy_70 : decode cX7_aboveBy 70 = .ok (.iconst 1, 1) := by decide +kernel
theorem dX7_aboveBy_71 : decode cX7_aboveBy 71 = .ok (.goto 4, 3) := by decide +kernel
theorem dX7_aboveBy_74 : decode cX7_aboveBy 74 = .ok (.iconst 0, 1) := by decide +kernel
theorem dX7_aboveBy_75 : decode cX7_aboveBy 75 = .ok (.iadd, 1) := by decide +kernel
theorem dX7_aboveBy_76 : decode cX7_aboveBy 76 = .ok (.istore_n 3, 1) := by decide +kernel
theorem dX7_aboveBy_77 : decode cX7_aboveBy 77 = .ok (.iinc 4 1, 3) := by decide +kernel
theorem dX7_aboveBy_80 : decode cX7_aboveBy 80 = .ok (.goto (-75), 3) := by decide +kernel
theorem dX7_aboveBy_83 : decode cX7_aboveBy 83 = .ok (.iload_n 3, 1) := by decide +kernel
theorem dX7_aboveBy_84 : decode cX7_aboveBy 84 = .ok (.ireturn, 1) := by decide +kernel
theorem dX7_seating_0 : decode cX7_seating 0 = .ok (.aload_n 0, 1) := by decide +kernel
theorem dX7_seating_1 : decode cX7_seating 1 = .ok (.iconst 0, 1) := by decide +kernel
theorem dX7_seating_2 : decode cX7_seating 2 = .ok (.putfield 71, 3) := by decide +kernel
theorem dX7_seating_5 : decode cX7_seating 5 = .ok (.iload_n 1, 1) := by decide +kernel
theorem dX7_seating_6 : decode cX7_seating 6 = .ok (.invokestatic 90, 3) := by decide +kernel
theorem dX7_seating_9 : decode cX7_seating 9 = .ok (.ifCond .ne 5, 3) := by decide +kernel
theorem dX7_seating_12 : decode cX7_seating 12 = .ok (.iconst (-1), 1) := by decide +kernel
theorem dX7_seating_13 : decode cX7_seating 13 = .ok (.ireturn, 1) := by decide +kernel
theorem dX7_seating_14 : decode cX7_seating 14 = .ok (.iload_n 2, 1) := by decide +kernel
theorem dX7_seating_15 : decode cX7_seating 15 = .ok (.invokestatic 94, 3) := by decide +kernel
theorem dX7_seating_18 : decode cX7_seating 18 = .ok (.ifCond .eq 25, 3) := by decide +kernel
theorem dX7_seating_21 : decode cX7_seating 21 = .ok (.iload 5, 2) := by decide +kernel
theorem dX7_seating_23 : decode cX7_seating 23 = .ok (.iconst 0, 1) := by decide +kernel
theorem dX7_seating_24 : decode cX7_seating 24 = .ok (.iconst 3, 1) := by decide +kernel
theorem dX7_seating_25 : decode cX7_seating 25 = .ok (.invokestatic 77, 3) := by decide +kernel
theorem dX7_seating_28 : decode cX7_seating 28 = .ok (.ifCond .ne 18, 3) := by decide +kernel
theorem dX7_seating_31 : decode cX7_seating 31 = .ok (.iload 5, 2) := by decide +kernel
theorem dX7_seating_33 : decode cX7_seating 33 = .ok (.bipush 10, 2) := by decide +kernel
theorem dX7_seating_35 : decode cX7_seating 35 = .ok (.bipush 13, 2) := by decide +kernel
theorem dX7_seating_37 : decode cX7_seating 37 = .ok (.invokestatic 77, 3) := by decide +kernel
theorem dX7_seating_40 : decode cX7_seating 40 = .ok (.ifCond .ne 6, 3) := by decide +kernel
theorem dX7_seating_43 : decode cX7_seating 43 = .ok (.bipush (-2), 2) := by decide +kernel
theorem dX7_seating_45 : decode cX7_seating 45 = .ok (.ireturn, 1) := by decide +kernel
theorem dX7_seating_46 : decode cX7_seating 46 = .ok (.aload_n 0, 1) := by decide +kernel
theorem dX7_seating_47 : decode cX7_seating 47 = .ok (.iload_n 1, 1) := by decide +kernel
theorem dX7_seating_48 : decode cX7_seating 48 = .ok (.iload_n 2, 1) := by decide +kernel
theorem dX7_seating_49 : decode cX7_seating 49 = .ok (.iload_n 3, 1) := by decide +kernel
theorem dX7_seating_50 : decode cX7_seating 50 = .ok (.iload 4, 2) := by decide +kernel
theorem dX7_seating_52 : decode cX7_seating 52 = .ok (.invokevirtual 97, 3) := by decide +kernel
theorem dX7_seating_55 : decode cX7_seating 55 = .ok (.istore 6, 2) := by decide +kernel
theorem dX7_seating_57 : decode cX7_seating 57 = .ok (.iload 6, 2) := by decide +kernel
theorem dX7_seating_59 : decode cX7_seating 59 = .ok (.ifCond .eq 10, 3) := by decide +kernel
theorem dX7_seating_62 : decode cX7_seating 62 = .ok (.aload_n 0, 1) := by decide +kernel
theorem dX7_seating_63 : decode cX7_seating 63 = .ok (.iload 6, 2) := by decide +kernel
theorem dX7_seating_65 : decode cX7_seating 65 = .ok (.invokevirtual 101, 3) := by decide +kernel
theorem dX7_seating_68 : decode cX7_seating 68 = .ok (.ireturn, 1) := by decide +kernel
theorem dX7_seating_69 : decode cX7_seating 69 = .ok (.aload_n 0, 1) := by decide +kernel
theorem dX7_seating_70 : decode cX7_seating 70 = .ok (.getfield 84, 3) := by decide +kernel
theorem dX7_seating_73 : decode cX7_seating 73 = .ok (.ifCond .ne 6, 3) := by decide +kernel
theorem dX7_seating_76 : decode cX7_seating 76 = .ok (.bipush (-3), 2) := by decide +kernel
theorem dX7_seating_78 : decode cX7_seating 78 = .ok (.ireturn, 1) := by decide +kernel
theorem dX7_seating_79 : decode cX7_seating 79 = .ok (.iload 4, 2) := by decide +kernel
theorem dX7_seating_81 : decode cX7_seating 81 = .ok (.aload_n 0, 1) := by decide +kernel
theorem dX7_seating_82 : decode cX7_seating 82 = .ok (.getfield 84, 3) := by decide +kernel
theorem dX7_seating_85 : decode cX7_seating 85 = .ok (.aload_n 0, 1) := by decide +kernel
theorem dX7_seating_86 : decode cX7_seating 86 = .ok (.getfield 81, 3) := by decide +kernel
theorem dX7_seating_89 : decode cX7_seating 89 = .ok (.imul, 1) := by decide +kernel
theorem dX7_seating_90 : decode cX7_seating 90 = .ok (.if_icmp .eq 6, 3) := by decide +kernel
theorem dX7_seating_93 : decode cX7_seating 93 = .ok (.bipush (-2), 2) := by decide +kernel
theorem dX7_seating_95 : decode cX7_seating 95 = .ok (.ireturn, 1) := by decide +kernel
theorem dX7_seating_96 : decode cX7_seating 96 = .ok (.bipush 60, 2) := by decide +kernel
theorem dX7_seating_98 : decode cX7_seating 98 = .ok (.iload_n 1, 1) := by decide +kernel
theorem dX7_seating_99 : decode cX7_seating 99 = .ok (.imul, 1) := by decide +kernel
theorem dX7_seating_100 : decode cX7_seating 100 = .ok (.iload_n 3, 1) := by decide +kernel
theorem dX7_seating_101 : decode cX7_seating 101 = .ok (.iadd, 1) := by decide +kernel
theorem dX7_seating_102 : decode cX7_seating 102 = .ok (.istore 7, 2) := by decide +kernel
theorem dX7_seating_104 : decode cX7_seating 104 = .ok (.iconst 0, 1) := by decide +kernel
theorem dX7_seating_105 : decode cX7_seating 105 = .ok (.istore 8, 2) := by decide +kernel
theorem dX7_seating_107 : decode cX7_seating 107 = .ok (.iload 8, 2) := by decide +kernel
theorem dX7_seating_109 : decode cX7_seating 109 = .ok (.iload 4, 2) := by decide +kernel
theorem dX7_seating_111 : decode cX7_seating 111 = .ok (.if_icmp .ge 30, 3) := by decide +kernel
theorem dX7_seating_114 : decode cX7_seating 114 = .ok (.aload_n 0, 1) := by decide +kernel
theorem dX7_seating_115 : decode cX7_seating 115 = .ok (.getfield 16, 3) := by decide +kernel
theorem dX7_seating_118 : decode cX7_seating 118 = .ok (.iload 7, 2) := by decide +kernel
theorem dX7_seating_120 : decode cX7_seating 120 = .ok (.iload 8, 2) := by decide +kernel
theorem dX7_seating_122 : decode cX7_seating 122 = .ok (.iadd, 1) := by decide +kernel
theorem dX7_seating_123 : decode cX7_seating 123 = .ok (.iaload, 1) := by decide +kernel
theorem dX7_seating_124 : decode cX7_seating 124 = .ok (.iconst 0, 1) := by decide +kernel
theorem dX7_seating_125 : decode cX7_seating 125 = .ok (.iconst 2, 1) := by decide +kernel
theorem dX7_seating_126 : decode cX7_seating 126 = .ok (.invokestatic 77, 3) := by decide +kernel
theorem dX7_seating_129 : decode cX7_seating 129 = .ok (.ifCond .ne 6, 3) := by decide +kernel
theorem dX7_seating_132 : decode cX7_seating 132 = .ok (.bipush (-2), 2) := by decide +kernel
theorem dX7_seating_134 : decode cX7_seating 134 = .ok (.ireturn, 1) := by decide +kernel
theorem dX7_seating_135 : decode cX7_seating 135 = .ok (.iinc 8 1, 3) := by decide +kernel
theorem dX7_seating_138 : decode cX7_seating 138 = .ok (.goto (-31), 3) := by decide +kernel
theorem dX7_seating_141 : decode cX7_seating 141 = .ok (.aload_n 0, 1) := by decide +kernel
theorem dX7_seating_142 : decode cX7_seating 142 = .ok (.iload 7, 2) := by decide +kernel
theorem dX7_seating_144 : decode cX7_seating 144 = .ok (.invokevirtual 171, 3) := by decide +kernel
theorem dX7_seating_147 : decode cX7_seating 147 = .ok (.istore 8, 2) := by decide +kernel
theorem dX7_seating_149 : decode cX7_seating 149 = .ok (.iload 5, 2) := by decide +kernel
theorem dX7_seating_151 : decode cX7_seating 151 = .ok (.iconst 1, 1) := by decide +kernel
theorem dX7_seating_152 : decode cX7_seating 152 = .ok (.if_icmp .ne 6, 3) := by decide +kernel
theorem dX7_seating_155 : decode cX7_seating 155 = .ok (.iload 8, 2) := by decide +kernel
theorem dX7_seating_157 : decode cX7_seating 157 = .ok (.ireturn, 1) := by decide +kernel
theorem dX7_seating_158 : decode cX7_seating 158 = .ok (.iload 8, 2) := by decide +kernel
theorem dX7_seating_160 : decode cX7_seating 160 = .ok (.bipush (-9), 2) := by decide +kernel
theorem dX7_seating_162 : decode cX7_seating 162 = .ok (.if_icmp .ne 14, 3) := by decide +kernel
theorem dX7_seating_165 : decode cX7_seating 165 = .ok (.aload_n 0, 1) := by decide +kernel
theorem dX7_seating_166 : decode cX7_seating 166 = .ok (.iload 7, 2) := by decide +kernel
theorem dX7_seating_168 : decode cX7_seating 168 = .ok (.iload 5, 2) := by decide +kernel
theorem dX7_seating_170 : decode cX7_seating 170 = .ok (.invokevirtual 174, 3) := by decide +kernel
theorem dX7_seating_173 : decode cX7_seating 173 = .ok (.goto 8, 3) := by decide +kernel
theorem dX7_seating_176 : decode cX7_seating 176 = .ok (.bipush (-100), 2) := by decide +kernel
theorem dX7_seating_178 : decode cX7_seating 178 = .ok (.iload 8, 2) := by decide +kernel
theorem dX7_seating_180 : decode cX7_seating 180 = .ok (.isub, 1) := by decide +kernel
theorem dX7_seating_181 : decode cX7_seating 181 = .ok (.ireturn, 1) := by decide +kernel
theorem dX7_tellSeating_0 : decode cX7_tellSeating 0 = .ok (.aload_n 0, 1) := by decide +kernel
theorem dX7_tellSeating_1 : decode cX7_tellSeating 1 = .ok (.invokevirtual 177, 3) := by decide +kernel
theorem dX7_tellSeating_4 : decode cX7_tellSeating 4 = .ok (.iload_n 2, 1) := by decide +kernel
theorem dX7_tellSeating_5 : decode cX7_tellSeating 5 = .ok (.tableswitch 57 0 3 #[31, 57, 43, 49], 31) := by decide +kernel
theorem dX7_tellSeating_36 : decode cX7_tellSeating 36 = .ok (.aload_n 0, 1) := by decide +kernel
theorem dX7_tellSeating_37 : decode cX7_tellSeating 37 = .ok (.iload_n 1, 1) := by decide +kernel
theorem dX7_tellSeating_38 : decode cX7_tellSeating 38 = .ok (.invokevirtual 180, 3) := by decide +kernel
theorem dX7_tellSeating_41 : decode cX7_tellSeating 41 = .ok (.aload_n 0, 1) := by decide +kernel
theorem dX7_tellSeating_42 : decode cX7_tellSeating 42 = .ok (.iload_n 1, 1) := by decide +kernel
theorem dX7_tellSeating_43 : decode cX7_tellSeating 43 = .ok (.invokevirtual 183, 3) := by decide +kernel
theorem dX7_tellSeating_46 : decode cX7_tellSeating 46 = .ok (.iadd, 1) := by decide +kernel
theorem dX7_tellSeating_47 : decode cX7_tellSeating 47 = .ok (.ireturn, 1) := by decide +kernel
theorem dX7_tellSeating_48 : decode cX7_tellSeating 48 = .ok (.aload_n 0, 1) := by decide +kernel
theorem dX7_tellSeating_49 : decode cX7_tellSeating 49 = .ok (.iload_n 1, 1) := by decide +kernel
theorem dX7_tellSeating_50 : decode cX7_tellSeating 50 = .ok (.invokevirtual 180, 3) := by decide +kernel
theorem dX7_tellSeating_53 : decode cX7_tellSeating 53 = .ok (.ireturn, 1) := by decide +kernel
theorem dX7_tellSeating_54 : decode cX7_tellSeating 54 = .ok (.aload_n 0, 1) := by decide +kernel
theorem dX7_tellSeating_55 : decode cX7_tellSeating 55 = .ok (.iload_n 1, 1) := by decide +kernel
theorem dX7_tellSeating_56 : decode cX7_tellSeating 56 = .ok (.bipush (-9), 2) := by decide +kernel
theorem dX7_tellSeating_58 : decode cX7_tellSeating 58 = .ok (.invokevirtual 186, 3) := by decide +kernel
theorem dX7_tellSeating_61 : decode cX7_tellSeating 61 = .ok (.ireturn, 1) := by decide +kernel
theorem dX7_tellSeating_62 : decode cX7_tellSeating 62 = .ok (.aload_n 0, 1) := by decide +kernel
theorem dX7_tellSeating_63 : decode cX7_tellSeating 63 = .ok (.iload_n 2, 1) := by decide +kernel
theorem dX7_tellSeating_64 : decode cX7_tellSeating 64 = .ok (.bipush 10, 2) := by decide +kernel
theorem dX7_tellSeating_66 : decode cX7_tellSeating 66 = .ok (.isub, 1) := by decide +kernel
theorem dX7_tellSeating_67 : decode cX7_tellSeating 67 = .ok (.invokevirtual 137, 3) := by decide +kernel
theorem dX7_tellSeating_70 : decode cX7_tellSeating 70 = .ok (.ifCond .eq 15, 3) := by decide +kernel
theorem dX7_tellSeating_73 : decode cX7_tellSeating 73 = .ok (.aload_n 0, 1) := by decide +kernel
theorem dX7_tellSeating_74 : decode cX7_tellSeating 74 = .ok (.iload_n 1, 1) := by decide +kernel
theorem dX7_tellSeating_75 : decode cX7_tellSeating 75 = .ok (.iload_n 2, 1) := by decide +kernel
theorem dX7_tellSeating_76 : decode cX7_tellSeating 76 = .ok (.bipush 10, 2) := by decide +kernel
theorem dX7_tellSeating_78 : decode cX7_tellSeating 78 = .ok (.isub, 1) := by decide +kernel
theorem dX7_tellSeating_79 : decode cX7_tellSeating 79 = .ok (.invokevirtual 186, 3) := by decide +kernel
theorem dX7_tellSeating_82 : decode cX7_tellSeating 82 = .ok (.goto 5, 3) := by decide +kernel
theorem dX7_tellSeating_85 : decode cX7_tellSeating 85 = .ok (.bipush (-9), 2) := by decide +kernel
theorem dX7_tellSeating_87 : decode cX7_tellSeating 87 = .ok (.ireturn, 1) := by decide +kernel
theorem dX7_rows_0 : decode cX7_rows 0 = .ok (.iconst 1, 1) := by decide +kernel
theorem dX7_rows_1 : decode cX7_rows 1 = .ok (.istore_n 1, 1) := by decide +kernel
theorem dX7_rows_2 : decode cX7_rows 2 = .ok (.aload_n 0, 1) := by decide +kernel
theorem dX7_rows_3 : decode cX7_rows 3 = .ok (.getfield 81, 3) := by decide +kernel
theorem dX7_rows_6 : decode cX7_rows 6 = .ok (.iconst 1, 1) := by decide +kernel
theorem dX7_rows_7 : decode cX7_rows 7 = .ok (.isub, 1) := by decide +kernel
theorem dX7_rows_8 : decode cX7_rows 8 = .ok (.istore_n 2, 1) := by decide +kernel
theorem dX7_rows_9 : decode cX7_rows 9 = .ok (.iload_n 2, 1) := by decide +kernel
theorem dX7_rows_10 : decode cX7_rows 10 = .ok (.ifCond .lt 20, 3) := by decide +kernel
theorem dX7_rows_13 : decode cX7_rows 13 = .ok (.aload_n 0, 1) := by decide +kernel
theorem dX7_rows_14 : decode cX7_rows 14 = .ok (.getfield 59, 3) := by decide +kernel
theorem dX7_rows_17 : decode cX7_rows 17 = .ok (.iload_n 2, 1) := by decide +kernel
theorem dX7_rows_18 : decode cX7_rows 18 = .ok (.iload_n 1, 1) := by decide +kernel
theorem dX7_rows_19 : decode cX7_rows 19 = .ok (.iastore, 1) := by decide +kernel
theorem dX7_rows_20 : decode cX7_rows 20 = .ok (.iload_n 1, 1) := by decide +kernel
theorem dX7_rows_21 : decode cX7_rows 21 = .ok (.iconst 3, 1) := by decide +kernel
theorem dX7_rows_22 : decode cX7_rows 22 = .ok (.imul, 1) := by decide +kernel
theorem dX7_rows_23 : decode cX7_rows 23 = .ok (.istore_n 1, 1) := by decide +kernel
theorem dX7_rows_24 : decode cX7_rows 24 = .ok (.iinc 2 (-1), 3) := by decide +kernel
theorem dX7_rows_27 : decode cX7_rows 27 = .ok (.goto (-18), 3) := by decide +kernel
theorem dX7_rows_30 : decode cX7_rows 30 = .ok (.iload_n 1, 1) := by decide +kernel
theorem dX7_rows_31 : decode cX7_rows 31 = .ok (.ireturn, 1) := by decide +kernel
theorem dX7_place_0 : decode cX7_place 0 = .ok (.iload_n 1, 1) := by decide +kernel
theorem dX7_place_1 : decode cX7_place 1 = .ok (.aload_n 0, 1) := by decide +kernel
theorem dX7_place_2 : decode cX7_place 2 = .ok (.getfield 59, 3) := by decide +kernel
theorem dX7_place_5 : decode cX7_place 5 = .ok (.iload_n 2, 1) := by decide +kernel
theorem dX7_place_6 : decode cX7_place 6 = .ok (.iaload, 1) := by decide +kernel
theorem dX7_place_7 : decode cX7_place 7 = .ok (.idiv, 1) := by decide +kernel
theorem dX7_place_8 : decode cX7_place 8 = .ok (.iconst 3, 1) := by decide +kernel
theorem dX7_place_9 : decode cX7_place 9 = .ok (.irem, 1) := by decide +kernel
theorem dX7_place_10 : decode cX7_place 10 = .ok (.ireturn, 1) := by decide +kernel
theorem dX7_lowIn_0 : decode cX7_lowIn 0 = .ok (.iconst 0, 1) := by decide +kernel
theorem dX7_lowIn_1 : decode cX7_lowIn 1 = .ok (.istore_n 3, 1) := by decide +kernel
theorem dX7_lowIn_2 : decode cX7_lowIn 2 = .ok (.iconst 0, 1) := by decide +kernel
theorem dX7_lowIn_3 : decode cX7_lowIn 3 = .ok (.istore 4, 2) := by decide +kernel
theorem dX7_lowIn_5 : decode cX7_lowIn 5 = .ok (.iload 4, 2) := by decide +kernel
theorem dX7_lowIn_7 : decode cX7_lowIn 7 = .ok (.aload_n 0, 1) := by decide +kernel
theorem dX7_lowIn_8 : decode cX7_lowIn 8 = .ok (.getfield 81, 3) := by decide +kernel
theorem dX7_lowIn_11 : decode cX7_lowIn 11 = .ok (.if_icmp .ge 43, 3) := by decide +kernel
theorem dX7_lowIn_14 : decode cX7_lowIn 14 = .ok (.aload_n 0, 1) := by decide +kernel
theorem dX7_lowIn_15 : decode cX7_lowIn 15 = .ok (.iload_n 2, 1) := by decide +kernel
theorem dX7_lowIn_16 : decode cX7_lowIn 16 = .ok (.iload 4, 2) := by decide +kernel
theorem dX7_lowIn_18 : decode cX7_lowIn 18 = .ok (.invokevirtual 189, 3) := by decide +kernel
theorem dX7_lowIn_21 : decode cX7_lowIn 21 = .ok (.aload_n 0, 1) := by decide +kernel
theorem dX7_lowIn_22 : decode cX7_lowIn 22 = .ok (.getfield 53, 3) := by decide +kernel
theorem dX7_lowIn_25 : decode cX7_lowIn 25 = .ok (.iconst 4, 1) := by decide +kernel
theorem dX7_lowIn_26 : decode cX7_lowIn 26 = .ok (.iload_n 1, 1) := by decide +kernel
theorem dX7_lowIn_27 : decode cX7_lowIn 27 = .ok (.imul, 1) := by decide +kernel
theorem dX7_lowIn_28 : decode cX7_lowIn 28 = .ok (.iload 4, 2) := by decide +kernel
theorem dX7_lowIn_30 : decode cX7_lowIn 30 = .ok (.iadd, 1) := by decide +kernel
theorem dX7_lowIn_31 : decode cX7_lowIn 31 = .ok (.iaload, 1) := by decide +kernel
theorem dX7_lowIn_32 : decode cX7_lowIn 32 = .ok (.isub, 1) := by decide +kernel
theorem dX7_lowIn_33 : decode cX7_lowIn 33 = .ok (.istore 5, 2) := by decide +kernel
