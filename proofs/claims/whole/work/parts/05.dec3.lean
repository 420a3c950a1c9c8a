theorem dX7_lowIn_35 : decode cX7_lowIn 35 = .ok (.iload 5, 2) := by decide +kernel
theorem dX7_lowIn_37 : decode cX7_lowIn 37 = .ok (.ifCond .ge 6, 3) := by decide +kernel
theorem dX7_lowIn_40 : decode cX7_lowIn 40 = .ok (.bipush (-9), 2) := by decide +kernel
theorem dX7_lowIn_42 : decode cX7_lowIn 42 = .ok (.ireturn, 1) := by decide +kernel
theorem dX7_lowIn_43 : decode cX7_lowIn 43 = .ok (.iload_n 3, 1) := by decide +kernel
theorem dX7_lowIn_44 : decode cX7_lowIn 44 = .ok (.iload 5, 2) := by decide +kernel
theorem dX7_lowIn_46 : decode cX7_lowIn 46 = .ok (.iadd, 1) := by decide +kernel
theorem dX7_lowIn_47 : decode cX7_lowIn 47 = .ok (.istore_n 3, 1) := by decide +kernel
theorem dX7_lowIn_48 : decode cX7_lowIn 48 = .ok (.iinc 4 1, 3) := by decide +kernel
theorem dX7_lowIn_51 : decode cX7_lowIn 51 = .ok (.goto (-46), 3) := by decide +kernel
theorem dX7_lowIn_54 : decode cX7_lowIn 54 = .ok (.iconst 0, 1) := by decide +kernel
theorem dX7_lowIn_55 : decode cX7_lowIn 55 = .ok (.istore 4, 2) := by decide +kernel
theorem dX7_lowIn_57 : decode cX7_lowIn 57 = .ok (.iload 4, 2) := by decide +kernel
theorem dX7_lowIn_59 : decode cX7_lowIn 59 = .ok (.iconst 3, 1) := by decide +kernel
theorem dX7_lowIn_60 : decode cX7_lowIn 60 = .ok (.if_icmp .ge 67, 3) := by decide +kernel
theorem dX7_lowIn_63 : decode cX7_lowIn 63 = .ok (.iconst 0, 1) := by decide +kernel
theorem dX7_lowIn_64 : decode cX7_lowIn 64 = .ok (.istore 5, 2) := by decide +kernel
theorem dX7_lowIn_66 : decode cX7_lowIn 66 = .ok (.iconst 0, 1) := by decide +kernel
theorem dX7_lowIn_67 : decode cX7_lowIn 67 = .ok (.istore 6, 2) := by decide +kernel
theorem dX7_lowIn_69 : decode cX7_lowIn 69 = .ok (.iload 6, 2) := by decide +kernel
theorem dX7_lowIn_71 : decode cX7_lowIn 71 = .ok (.aload_n 0, 1) := by decide +kernel
theorem dX7_lowIn_72 : decode cX7_lowIn 72 = .ok (.getfield 81, 3) := by decide +kernel
theorem dX7_lowIn_75 : decode cX7_lowIn 75 = .ok (.if_icmp .ge 31, 3) := by decide +kernel
theorem dX7_lowIn_78 : decode cX7_lowIn 78 = .ok (.iload 5, 2) := by decide +kernel
theorem dX7_lowIn_80 : decode cX7_lowIn 80 = .ok (.aload_n 0, 1) := by decide +kernel
theorem dX7_lowIn_81 : decode cX7_lowIn 81 = .ok (.iload_n 2, 1) := by decide +kernel
theorem dX7_lowIn_82 : decode cX7_lowIn 82 = .ok (.iload 6, 2) := by decide +kernel
theorem dX7_lowIn_84 : decode cX7_lowIn 84 = .ok (.invokevirtual 189, 3) := by decide +kernel
theorem dX7_lowIn_87 : decode cX7_lowIn 87 = .ok (.iload 4, 2) := by decide +kernel
theorem dX7_lowIn_89 : decode cX7_lowIn 89 = .ok (.if_icmp .ne 7, 3) := by decide +kernel
theorem dX7_lowIn_92 : decode cX7_lowIn 92 = .ok (.iconst 1, 1) := by decide +kernel
theorem dX7_lowIn_93 : decode cX7_lowIn 93 = .ok (.goto 4, 3) := by decide +kernel
theorem dX7_lowIn_96 : decode cX7_lowIn 96 = .ok (.iconst 0, 1) := by decide +kernel
theorem dX7_lowIn_97 : decode cX7_lowIn 97 = .ok (.iadd, 1) := by decide +kernel
theorem dX7_lowIn_98 : decode cX7_lowIn 98 = .ok (.istore 5, 2) := by decide +kernel
theorem dX7_lowIn_100 : decode cX7_lowIn 100 = .ok (.iinc 6 1, 3) := by decide +kernel
theorem dX7_lowIn_103 : decode cX7_lowIn 103 = .ok (.goto (-34), 3) := by decide +kernel
theorem dX7_lowIn_106 : decode cX7_lowIn 106 = .ok (.iload 5, 2) := by decide +kernel
theorem dX7_lowIn_108 : decode cX7_lowIn 108 = .ok (.aload_n 0, 1) := by decide +kernel
theorem dX7_lowIn_109 : decode cX7_lowIn 109 = .ok (.getfield 19, 3) := by decide +kernel
theorem dX7_lowIn_112 : decode cX7_lowIn 112 = .ok (.iload 4, 2) := by decide +kernel
theorem dX7_lowIn_114 : decode cX7_lowIn 114 = .ok (.iaload, 1) := by decide +kernel
theorem dX7_lowIn_115 : decode cX7_lowIn 115 = .ok (.if_icmp .le 6, 3) := by decide +kernel
theorem dX7_lowIn_118 : decode cX7_lowIn 118 = .ok (.bipush (-9), 2) := by decide +kernel
theorem dX7_lowIn_120 : decode cX7_lowIn 120 = .ok (.ireturn, 1) := by decide +kernel
theorem dX7_lowIn_121 : decode cX7_lowIn 121 = .ok (.iinc 4 1, 3) := by decide +kernel
theorem dX7_lowIn_124 : decode cX7_lowIn 124 = .ok (.goto (-67), 3) := by decide +kernel
theorem dX7_lowIn_127 : decode cX7_lowIn 127 = .ok (.iload_n 3, 1) := by decide +kernel
theorem dX7_lowIn_128 : decode cX7_lowIn 128 = .ok (.ireturn, 1) := by decide +kernel
theorem dX7_changed_0 : decode cX7_changed 0 = .ok (.iconst 0, 1) := by decide +kernel
theorem dX7_changed_1 : decode cX7_changed 1 = .ok (.istore_n 3, 1) := by decide +kernel
theorem dX7_changed_2 : decode cX7_changed 2 = .ok (.iconst 0, 1) := by decide +kernel
theorem dX7_changed_3 : decode cX7_changed 3 = .ok (.istore 4, 2) := by decide +kernel
theorem dX7_changed_5 : decode cX7_changed 5 = .ok (.iload 4, 2) := by decide +kernel
theorem dX7_changed_7 : decode cX7_changed 7 = .ok (.aload_n 0, 1) := by decide +kernel
theorem dX7_changed_8 : decode cX7_changed 8 = .ok (.getfield 81, 3) := by decide +kernel
theorem dX7_changed_11 : decode cX7_changed 11 = .ok (.if_icmp .ge 34, 3) := by decide +kernel
theorem dX7_changed_14 : decode cX7_changed 14 = .ok (.iload_n 3, 1) := by decide +kernel
theorem dX7_changed_15 : decode cX7_changed 15 = .ok (.aload_n 0, 1) := by decide +kernel
theorem dX7_changed_16 : decode cX7_changed 16 = .ok (.iload_n 1, 1) := by decide +kernel
theorem dX7_changed_17 : decode cX7_changed 17 = .ok (.iload 4, 2) := by decide +kernel
theorem dX7_changed_19 : decode cX7_changed 19 = .ok (.invokevirtual 189, 3) := by decide +kernel
theorem dX7_changed_22 : decode cX7_changed 22 = .ok (.aload_n 0, 1) := by decide +kernel
theorem dX7_changed_23 : decode cX7_changed 23 = .ok (.iload_n 2, 1) := by decide +kernel
theorem dX7_changed_24 : decode cX7_changed 24 = .ok (.iload 4, 2) := by decide +kernel
theorem dX7_changed_26 : decode cX7_changed 26 = .ok (.invokevirtual 189, 3) := by decide +kernel
theorem dX7_changed_29 : decode cX7_changed 29 = .ok (.if_icmp .ne 7, 3) := by decide +kernel
theorem dX7_changed_32 : decode cX7_changed 32 = .ok (.iconst 0, 1) := by decide +kernel
theorem dX7_changed_33 : decode cX7_changed 33 = .ok (.goto 4, 3) := by decide +kernel
theorem dX7_changed_36 : decode cX7_changed 36 = .ok (.iconst 1, 1) := by decide +kernel
theorem dX7_changed_37 : decode cX7_changed 37 = .ok (.iadd, 1) := by decide +kernel
theorem dX7_changed_38 : decode cX7_changed 38 = .ok (.istore_n 3, 1) := by decide +kernel
theorem dX7_changed_39 : decode cX7_changed 39 = .ok (.iinc 4 1, 3) := by decide +kernel
theorem dX7_changed_42 : decode cX7_changed 42 = .ok (.goto (-37), 3) := by decide +kernel
theorem dX7_changed_45 : decode cX7_changed 45 = .ok (.iload_n 3, 1) := by decide +kernel
theorem dX7_changed_46 : decode cX7_changed 46 = .ok (.ireturn, 1) := by decide +kernel
theorem dX7_bestBehind_0 : decode cX7_bestBehind 0 = .ok (.iload_n 1, 1) := by decide +kernel
theorem dX7_bestBehind_1 : decode cX7_bestBehind 1 = .ok (.aload_n 0, 1) := by decide +kernel
theorem dX7_bestBehind_2 : decode cX7_bestBehind 2 = .ok (.getfield 84, 3) := by decide +kernel
theorem dX7_bestBehind_5 : decode cX7_bestBehind 5 = .ok (.iconst 1, 1) := by decide +kernel
theorem dX7_bestBehind_6 : decode cX7_bestBehind 6 = .ok (.isub, 1) := by decide +kernel
theorem dX7_bestBehind_7 : decode cX7_bestBehind 7 = .ok (.if_icmp .ne 5, 3) := by decide +kernel
theorem dX7_bestBehind_10 : decode cX7_bestBehind 10 = .ok (.iconst 0, 1) := by decide +kernel
theorem dX7_bestBehind_11 : decode cX7_bestBehind 11 = .ok (.ireturn, 1) := by decide +kernel
theorem dX7_bestBehind_12 : decode cX7_bestBehind 12 = .ok (.bipush (-9), 2) := by decide +kernel
theorem dX7_bestBehind_14 : decode cX7_bestBehind 14 = .ok (.istore 4, 2) := by decide +kernel
theorem dX7_bestBehind_16 : decode cX7_bestBehind 16 = .ok (.iconst 0, 1) := by decide +kernel
theorem dX7_bestBehind_17 : decode cX7_bestBehind 17 = .ok (.istore 5, 2) := by decide +kernel
theorem dX7_bestBehind_19 : decode cX7_bestBehind 19 = .ok (.iload 5, 2) := by decide +kernel
theorem dX7_bestBehind_21 : decode cX7_bestBehind 21 = .ok (.iload_n 3, 1) := by decide +kernel
theorem dX7_bestBehind_22 : decode cX7_bestBehind 22 = .ok (.if_icmp .ge 67, 3) := by decide +kernel
theorem dX7_bestBehind_25 : decode cX7_bestBehind 25 = .ok (.aload_n 0, 1) := by decide +kernel
theorem dX7_bestBehind_26 : decode cX7_bestBehind 26 = .ok (.getfield 56, 3) := by decide +kernel
theorem dX7_bestBehind_29 : decode cX7_bestBehind 29 = .ok (.bipush 81, 2) := by decide +kernel
theorem dX7_bestBehind_31 : decode cX7_bestBehind 31 = .ok (.iload_n 1, 1) := by decide +kernel
theorem dX7_bestBehind_32 : decode cX7_bestBehind 32 = .ok (.iconst 1, 1) := by decide +kernel
theorem dX7_bestBehind_33 : decode cX7_bestBehind 33 = .ok (.iadd, 1) := by decide +kernel
theorem dX7_bestBehind_34 : decode cX7_bestBehind 34 = .ok (.imul, 1) := by decide +kernel
theorem dX7_bestBehind_35 : decode cX7_bestBehind 35 = .ok (.iload 5, 2) := by decide +kernel
theorem dX7_bestBehind_37 : decode cX7_bestBehind 37 = .ok (.iadd, 1) := by decide +kernel
theorem dX7_bestBehind_38 : decode cX7_bestBehind 38 = .ok (.iaload, 1) := by decide +kernel
theorem dX7_bestBehind_39 : decode cX7_bestBehind 39 = .ok (.istore 6, 2) := by decide +kernel
theorem dX7_bestBehind_41 : decode cX7_bestBehind 41 = .ok (.iload 6, 2) := by decide +kernel
theorem dX7_bestBehind_43 : decode cX7_bestBehind 43 = .ok (.bipush (-9), 2) := by decide +kernel
theorem dX7_bestBehind_45 : decode cX7_bestBehind 45 = .ok (.if_icmp .eq 38, 3) := by decide +kernel
theorem dX7_bestBehind_48 : decode cX7_bestBehind 48 = .ok (.iload 6, 2) := by decide +kernel
theorem dX7_bestBehind_50 : decode cX7_bestBehind 50 = .ok (.aload_n 0, 1) := by decide +kernel
theorem dX7_bestBehind_51 : decode cX7_bestBehind 51 = .ok (.iload_n 2, 1) := by decide +kernel
theorem dX7_bestBehind_52 : decode cX7_bestBehind 52 = .ok (.iload 5, 2) := by decide +kernel
theorem dX7_bestBehind_54 : decode cX7_bestBehind 54 = .ok (.invokevirtual 192, 3) := by decide +kernel
theorem dX7_bestBehind_57 : decode cX7_bestBehind 57 = .ok (.iadd, 1) := by decide +kernel
theorem dX7_bestBehind_58 : decode cX7_bestBehind 58 = .ok (.istore 6, 2) := by decide +kernel
theorem dX7_bestBehind_60 : decode cX7_bestBehind 60 = .ok (.iload 4, 2) := by decide +kernel
theorem dX7_bestBehind_62 : decode cX7_bestBehind 62 = .ok (.bipush (-9), 2) := by decide +kernel
theorem dX7_bestBehind_64 : decode cX7_bestBehind 64 = .ok (.if_icmp .eq 10, 3) := by decide +kernel
theorem dX7_bestBehind_67 : decode cX7_bestBehind 67 = .ok (.iload 6, 2) := by decide +kernel
theorem dX7_bestBehind_69 : decode cX7_bestBehind 69 = .ok (.iload 4, 2) := by decide +kernel
theorem dX7_bestBehind_71 : decode cX7_bestBehind 71 = .ok (.if_icmp .ge 8, 3) := by decide +kernel
theorem dX7_bestBehind_74 : decode cX7_bestBehind 74 = .ok (.iload 6, 2) := by decide +kernel
theorem dX7_bestBehind_76 : decode cX7_bestBehind 76 = .ok (.goto 5, 3) := by decide +kernel
theorem dX7_bestBehind_79 : decode cX7_bestBehind 79 = .ok (.iload 4, 2) := by decide +kernel
theorem dX7_bestBehind_81 : decode cX7_bestBehind 81 = .ok (.istore 4, 2) := by decide +kernel
theorem dX7_bestBehind_83 : decode cX7_bestBehind 83 = .ok (.iinc 5 1, 3) := by decide +kernel
theorem dX7_bestBehind_86 : decode cX7_bestBehind 86 = .ok (.goto (-67), 3) := by decide +kernel
theorem dX7_bestBehind_89 : decode cX7_bestBehind 89 = .ok (.iload 4, 2) := by decide +kernel
theorem dX7_bestBehind_91 : decode cX7_bestBehind 91 = .ok (.ireturn, 1) := by decide +kernel
theorem dX7_findEase_0 : decode cX7_findEase 0 = .ok (.aload_n 0, 1) := by decide +kernel
theorem dX7_findEase_1 : decode cX7_findEase 1 = .ok (.invokevirtual 177, 3) := by decide +kernel
theorem dX7_findEase_4 : decode cX7_findEase 4 = .ok (.aload_n 0, 1) := by decide +kernel
theorem dX7_findEase_5 : decode cX7_findEase 5 = .ok (.getfield 84, 3) := by decide +kernel
theorem dX7_findEase_8 : decode cX7_findEase 8 = .ok (.iconst 1, 1) := by decide +kernel
theorem dX7_findEase_9 : decode cX7_findEase 9 = .ok (.isub, 1) := by decide +kernel
theorem dX7_findEase_10 : decode cX7_findEase 10 = .ok (.istore_n 2, 1) := by decide +kernel
theorem dX7_findEase_11 : decode cX7_findEase 11 = .ok (.iload_n 2, 1) := by decide +kernel
theorem dX7_findEase_12 : decode cX7_findEase 12 = .ok (.ifCond .lt 79, 3) := by decide +kernel
theorem dX7_findEase_15 : decode cX7_findEase 15 = .ok (.iconst 0, 1) := by decide +kernel
theorem dX7_findEase_16 : decode cX7_findEase 16 = .ok (.istore_n 3, 1) := by decide +kernel
theorem dX7_findEase_17 : decode cX7_findEase 17 = .ok (.iload_n 3, 1) := by decide +kernel
theorem dX7_findEase_18 : decode cX7_findEase 18 = .ok (.iload_n 1, 1) := by decide +kernel
theorem dX7_findEase_19 : decode cX7_findEase 19 = .ok (.if_icmp .ge 66, 3) := by decide +kernel
theorem dX7_findEase_22 : decode cX7_findEase 22 = .ok (.aload_n 0, 1) := by decide +kernel
theorem dX7_findEase_23 : decode cX7_findEase 23 = .ok (.iload_n 2, 1) := by decide +kernel
theorem dX7_findEase_24 : decode cX7_findEase 24 = .ok (.iload_n 3, 1) := by decide +kernel
theorem dX7_findEase_25 : decode cX7_findEase 25 = .ok (.invokevirtual 195, 3) := by decide +kernel
theorem dX7_findEase_28 : decode cX7_findEase 28 = .ok (.istore 4, 2) := by decide +kernel
theorem dX7_findEase_30 : decode cX7_findEase 30 = .ok (.iload 4, 2) := by decide +kernel
theorem dX7_findEase_32 : decode cX7_findEase 32 = .ok (.bipush (-9), 2) := by decide +kernel
theorem dX7_findEase_34 : decode cX7_findEase 34 = .ok (.if_icmp .ne 8, 3) := by decide +kernel
theorem dX7_findEase_37 : decode cX7_findEase 37 = .ok (.bipush (-9), 2) := by decide +kernel
theorem dX7_findEase_39 : decode cX7_findEase 39 = .ok (.goto 10, 3) := by decide +kernel
theorem dX7_findEase_42 : decode cX7_findEase 42 = .ok (.aload_n 0, 1) := by decide +kernel
theorem dX7_findEase_43 : decode cX7_findEase 43 = .ok (.iload_n 2, 1) := by decide +kernel
theorem dX7_findEase_44 : decode cX7_findEase 44 = .ok (.iload_n 3, 1) := by decide +kernel
theorem dX7_findEase_45 : decode cX7_findEase 45 = .ok (.iload_n 1, 1) := by decide +kernel
theorem dX7_findEase_46 : decode cX7_findEase 46 = .ok (.invokevirtual 198, 3) := by decide +kernel
theorem dX7_findEase_49 : decode cX7_findEase 49 = .ok (.istore 5, 2) := by decide +kernel
theorem dX7_findEase_51 : decode cX7_findEase 51 = .ok (.aload_n 0, 1) := by decide +kernel
theorem dX7_findEase_52 : decode cX7_findEase 52 = .ok (.getfield 56, 3) := by decide +kernel
theorem dX7_findEase_55 : decode cX7_findEase 55 = .ok (.bipush 81, 2) := by decide +kernel
theorem dX7_findEase_57 : decode cX7_findEase 57 = .ok (.iload_n 2, 1) := by decide +kernel
theorem dX7_findEase_58 : decode cX7_findEase 58 = .ok (.imul, 1) := by decide +kernel
theorem dX7_findEase_59 : decode cX7_findEase 59 = .ok (.iload_n 3, 1) := by decide +kernel
theorem dX7_findEase_60 : decode cX7_findEase 60 = .ok (.iadd, 1) := by decide +kernel
theorem dX7_findEase_61 : decode cX7_findEase 61 = .ok (.iload 5, 2) := by decide +kernel
theorem dX7_findEase_63 : decode cX7_findEase 63 = .ok (.bipush (-9), 2) := by decide +kernel
theorem dX7_findEase_65 : decode cX7_findEase 65 = .ok (.if_icmp .ne 8, 3) := by decide +kernel
theorem dX7_findEase_68 : decode cX7_findEase 68 = .ok (.bipush (-9), 2) := by decide +kernel
theorem dX7_findEase_70 : decode cX7_findEase 70 = .ok (.goto 8, 3) := by decide +kernel
theorem dX7_findEase_73 : decode cX7_findEase 73 = .ok (.iload 4, 2) := by decide +kernel
theorem dX7_findEase_75 : decode cX7_findEase 75 = .ok (.iload 5, 2) := by decide +kernel
theorem dX7_findEase_77 : decode cX7_findEase 77 = .ok (.iadd, 1) := by decide +kernel
theorem dX7_findEase_78 : decode cX7_findEase 78 = .ok (.iastore, 1) := by decide +kernel
theorem dX7_findEase_79 : decode cX7_findEase 79 = .ok (.iinc 3 1, 3) := by decide +kernel
theorem dX7_findEase_82 : decode cX7_findEase 82 = .ok (.goto (-65), 3) := by decide +kernel
theorem dX7_findEase_85 : decode cX7_findEase 85 = .ok (.iinc 2 (-1), 3) := by decide +kernel
theorem dX7_findEase_88 : decode cX7_findEase 88 = .ok (.goto (-77), 3) := by decide +kernel
theorem dX7_findEase_91 : decode cX7_findEase 91 = .ok (.return_, 1) := by decide +kernel
theorem dX7_bestRow_0 : decode cX7_bestRow 0 = .ok (.bipush (-9), 2) := by decide +kernel
theorem dX7_bestRow_2 : decode cX7_bestRow 2 = .ok (.istore 4, 2) := by decide +kernel
theorem dX7_bestRow_4 : decode cX7_bestRow 4 = .ok (.bipush (-9), 2) := by decide +kernel
theorem dX7_bestRow_6 : decode cX7_bestRow 6 = .ok (.istore 5, 2) := by decide +kernel
theorem dX7_bestRow_8 : decode cX7_bestRow 8 = .ok (.iconst 0, 1) := by decide +kernel
theorem dX7_bestRow_9 : decode cX7_bestRow 9 = .ok (.istore 6, 2) := by decide +kernel
theorem dX7_bestRow_11 : decode cX7_bestRow 11 = .ok (.iload 6, 2) := by decide +kernel
theorem dX7_bestRow_13 : decode cX7_bestRow 13 = .ok (.iload_n 3, 1) := by decide +kernel
theorem dX7_bestRow_14 : decode cX7_bestRow 14 = .ok (.if_icmp .ge 74, 3) := by decide +kernel
theorem dX7_bestRow_17 : decode cX7_bestRow 17 = .ok (.aload_n 0, 1) := by decide +kernel
theorem dX7_bestRow_18 : decode cX7_bestRow 18 = .ok (.getfield 56, 3) := by decide +kernel
theorem dX7_bestRow_21 : decode cX7_bestRow 21 = .ok (.bipush 81, 2) := by decide +kernel
theorem dX7_bestRow_23 : decode cX7_bestRow 23 = .ok (.iload_n 1, 1) := by decide +kernel
theorem dX7_bestRow_24 : decode cX7_bestRow 24 = .ok (.imul, 1) := by decide +kernel
theorem dX7_bestRow_25 : decode cX7_bestRow 25 = .ok (.iload 6, 2) := by decide +kernel
theorem dX7_bestRow_27 : decode cX7_bestRow 27 = .ok (.iadd, 1) := by decide +kernel
theorem dX7_bestRow_28 : decode cX7_bestRow 28 = .ok (.iaload, 1) := by decide +kernel
theorem dX7_bestRow_29 : decode cX7_bestRow 29 = .ok (.istore 7, 2) := by decide +kernel
theorem dX7_bestRow_31 : decode cX7_bestRow 31 = .ok (.iload 7, 2) := by decide +kernel
theorem dX7_bestRow_33 : decode cX7_bestRow 33 = .ok (.bipush (-9), 2) := by decide +kernel
theorem dX7_bestRow_35 : decode cX7_bestRow 35 = .ok (.if_icmp .eq 47, 3) := by decide +kernel
theorem dX7_bestRow_38 : decode cX7_bestRow 38 = .ok (.iload 7, 2) := by decide +kernel
theorem dX7_bestRow_40 : decode cX7_bestRow 40 = .ok (.iload_n 2, 1) := by decide +kernel
theorem dX7_bestRow_41 : decode cX7_bestRow 41 = .ok (.bipush (-9), 2) := by decide +kernel
theorem dX7_bestRow_43 : decode cX7_bestRow 43 = .ok (.if_icmp .ne 7, 3) := by decide +kernel
theorem dX7_bestRow_46 : decode cX7_bestRow 46 = .ok (.iconst 0, 1) := by decide +kernel
theorem dX7_bestRow_47 : decode cX7_bestRow 47 = .ok (.goto 10, 3) := by decide +kernel
theorem dX7_bestRow_50 : decode cX7_bestRow 50 = .ok (.aload_n 0, 1) := by decide +kernel
theorem dX7_bestRow_51 : decode cX7_bestRow 51 = .ok (.iload_n 2, 1) := by decide +kernel
theorem dX7_bestRow_52 : decode cX7_bestRow 52 = .ok (.iload 6, 2) := by decide +kernel
theorem dX7_bestRow_54 : decode cX7_bestRow 54 = .ok (.invokevirtual 192, 3) := by decide +kernel
theorem dX7_bestRow_57 : decode cX7_bestRow 57 = .ok (.iadd, 1) := by decide +kernel
theorem dX7_bestRow_58 : decode cX7_bestRow 58 = .ok (.istore 7, 2) := by decide +kernel
theorem dX7_bestRow_60 : decode cX7_bestRow 60 = .ok (.iload 4, 2) := by decide +kernel
theorem dX7_bestRow_62 : decode cX7_bestRow 62 = .ok (.bipush (-9), 2) := by decide +kernel
theorem dX7_bestRow_64 : decode cX7_bestRow 64 = .ok (.if_icmp .eq 10, 3) := by decide +kernel
theorem dX7_bestRow_67 : decode cX7_bestRow 67 = .ok (.iload 7, 2) := by decide +kernel
theorem dX7_bestRow_69 : decode cX7_bestRow 69 = .ok (.iload 5, 2) := by decide +kernel
theorem dX7_bestRow_71 : decode cX7_bestRow 71 = .ok (.if_icmp .ge 11, 3) := by decide +kernel
theorem dX7_bestRow_74 : decode cX7_bestRow 74 = .ok (.iload 6, 2) := by decide +kernel
theorem dX7_bestRow_76 : decode cX7_bestRow 76 = .ok (.istore 4, 2) := by decide +kernel
theorem dX7_bestRow_78 : decode cX7_bestRow 78 = .ok (.iload 7, 2) := by decide +kernel
theorem dX7_bestRow_80 : decode cX7_bestRow 80 = .ok (.istore 5, 2) := by decide +kernel
theorem dX7_bestRow_82 : decode cX7_bestRow 82 = .ok (.iinc 6 1, 3) := by decide +kernel
theorem dX7_bestRow_85 : decode cX7_bestRow 85 = .ok (.goto (-74), 3) := by decide +kernel
theorem dX7_bestRow_88 : decode cX7_bestRow 88 = .ok (.iload 4, 2) := by decide +kernel
theorem dX7_bestRow_90 : decode cX7_bestRow 90 = .ok (.ireturn, 1) := by decide +kernel
theorem dX7_ease_0 : decode cX7_ease 0 = .ok (.iload_n 1, 1) := by decide +kernel
theorem dX7_ease_1 : decode cX7_ease 1 = .ok (.iconst (-1), 1) := by decide +kernel
theorem dX7_ease_2 : decode cX7_ease 2 = .ok (.if_icmp .ge 5, 3) := by decide +kernel
theorem dX7_ease_5 : decode cX7_ease 5 = .ok (.iconst (-1), 1) := by decide +kernel
theorem dX7_ease_6 : decode cX7_ease 6 = .ok (.ireturn, 1) := by decide +kernel
theorem dX7_ease_7 : decode cX7_ease 7 = .ok (.aload_n 0, 1) := by decide +kernel
theorem dX7_ease_8 : decode cX7_ease 8 = .ok (.getfield 84, 3) := by decide +kernel
theorem dX7_ease_11 : decode cX7_ease 11 = .ok (.ifCond .ne 6, 3) := by decide +kernel
theorem dX7_ease_14 : decode cX7_ease 14 = .ok (.bipush (-3), 2) := by decide +kernel
theorem dX7_ease_16 : decode cX7_ease 16 = .ok (.ireturn, 1) := by decide +kernel
theorem dX7_ease_17 : decode cX7_ease 17 = .ok (.aload_n 0, 1) := by decide +kernel
theorem dX7_ease_18 : decode cX7_ease 18 = .ok (.invokevirtual 201, 3) := by decide +kernel
theorem dX7_ease_21 : decode cX7_ease 21 = .ok (.istore_n 2, 1) := by decide +kernel
theorem dX7_ease_22 : decode cX7_ease 22 = .ok (.aload_n 0, 1) := by decide +kernel
theorem dX7_ease_23 : decode cX7_ease 23 = .ok (.iload_n 2, 1) := by decide +kernel
theorem dX7_ease_24 : decode cX7_ease 24 = .ok (.invokevirtual 205, 3) := by decide +kernel
theorem dX7_ease_27 : decode cX7_ease 27 = .ok (.aload_n 0, 1) := by decide +kernel
theorem dX7_ease_28 : decode cX7_ease 28 = .ok (.iconst 0, 1) := by decide +kernel
theorem dX7_ease_29 : decode cX7_ease 29 = .ok (.bipush (-9), 2) := by decide +kernel
theorem dX7_ease_31 : decode cX7_ease 31 = .ok (.iload_n 2, 1) := by decide +kernel
theorem dX7_ease_32 : decode cX7_ease 32 = .ok (.invokevirtual 208, 3) := by decide +kernel
theorem dX7_ease_35 : decode cX7_ease 35 = .ok (.istore_n 3, 1) := by decide +kernel
theorem dX7_ease_36 : decode cX7_ease 36 = .ok (.iload_n 1, 1) := by decide +kernel
theorem dX7_ease_37 : decode cX7_ease 37 = .ok (.iconst (-1), 1) := by decide +kernel
theorem dX7_ease_38 : decode cX7_ease 38 = .ok (.if_icmp .eq 22, 3) := by decide +kernel
theorem dX7_ease_41 : decode cX7_ease 41 = .ok (.iload_n 3, 1) := by decide +kernel
theorem dX7_ease_42 : decode cX7_ease 42 = .ok (.bipush (-9), 2) := by decide +kernel
theorem dX7_ease_44 : decode cX7_ease 44 = .ok (.if_icmp .eq 16, 3) := by decide +kernel
theorem dX7_ease_47 : decode cX7_ease 47 = .ok (.iload_n 1, 1) := by decide +kernel
theorem dX7_ease_48 : decode cX7_ease 48 = .ok (.aload_n 0, 1) := by decide +kernel
theorem dX7_ease_49 : decode cX7_ease 49 = .ok (.getfield 84, 3) := by decide +kernel
theorem dX7_ease_52 : decode cX7_ease 52 = .ok (.aload_n 0, 1) := by decide +kernel
theorem dX7_ease_53 : decode cX7_ease 53 = .ok (.getfield 81, 3) := by decide +kernel
theorem dX7_ease_56 : decode cX7_ease 56 = .ok (.imul, 1) := by decide +kernel
theorem dX7_ease_57 : decode cX7_ease 57 = .ok (.if_icmp .lt 26, 3) := by decide +kernel
theorem dX7_ease_60 : decode cX7_ease 60 = .ok (.iload_n 1, 1) := by decide +kernel
theorem dX7_ease_61 : decode cX7_ease 61 = .ok (.iconst (-1), 1) := by decide +kernel
theorem dX7_ease_62 : decode cX7_ease 62 = .ok (.if_icmp .ne 18, 3) := by decide +kernel
theorem dX7_ease_65 : decode cX7_ease 65 = .ok (.iload_n 3, 1) := by decide +kernel
theorem dX7_ease_66 : decode cX7_ease 66 = .ok (.bipush (-9), 2) := by decide +kernel
theorem dX7_ease_68 : decode cX7_ease 68 = .ok (.if_icmp .eq 12, 3) := by decide +kernel
theorem dX7_ease_71 : decode cX7_ease 71 = .ok (.aload_n 0, 1) := by decide +kernel
theorem dX7_ease_72 : decode cX7_ease 72 = .ok (.getfield 56, 3) := by decide +kernel
theorem dX7_ease_75 : decode cX7_ease 75 = .ok (.iload_n 3, 1) := by decide +kernel
theorem dX7_ease_76 : decode cX7_ease 76 = .ok (.iaload, 1) := by decide +kernel
theorem dX7_ease_77 : decode cX7_ease 77 = .ok (.goto 5, 3) := by decide +kernel
theorem dX7_ease_80 : decode cX7_ease 80 = .ok (.bipush (-9), 2) := by decide +kernel
theorem dX7_ease_82 : decode cX7_ease 82 = .ok (.ireturn, 1) := by decide +kernel
theorem dX7_ease_83 : decode cX7_ease 83 = .ok (.iconst 1, 1) := by decide +kernel
theorem dX7_ease_84 : decode cX7_ease 84 = .ok (.istore 4, 2) := by decide +kernel
theorem dX7_ease_86 : decode cX7_ease 86 = .ok (.iload 4, 2) := by decide +kernel
theorem dX7_ease_88 : decode cX7_ease 88 = .ok (.iload_n 1, 1) := by decide +kernel
theorem dX7_ease_89 : decode cX7_ease 89 = .ok (.aload_n 0, 1) := by decide +kernel
theorem dX7_ease_90 : decode cX7_ease 90 = .ok (.getfield 81, 3) := by decide +kernel
theorem dX7_ease_93 : decode cX7_ease 93 = .ok (.idiv, 1) := by decide +kernel
theorem dX7_ease_94 : decode cX7_ease 94 = .ok (.if_icmp .gt 18, 3) := by decide +kernel
theorem dX7_ease_97 : decode cX7_ease 97 = .ok (.aload_n 0, 1) := by decide +kernel
theorem dX7_ease_98 : decode cX7_ease 98 = .ok (.iload 4, 2) := by decide +kernel
theorem dX7_ease_100 : decode cX7_ease 100 = .ok (.iload_n 3, 1) := by decide +kernel
theorem dX7_ease_101 : decode cX7_ease 101 = .ok (.iload_n 2, 1) := by decide +kernel
theorem dX7_ease_102 : decode cX7_ease 102 = .ok (.invokevirtual 208, 3) := by decide +kernel
theorem dX7_ease_105 : decode cX7_ease 105 = .ok (.istore_n 3, 1) := by decide +kernel
theorem dX7_ease_106 : decode cX7_ease 106 = .ok (.iinc 4 1, 3) := by decide +kernel
theorem dX7_ease_109 : decode cX7_ease 109 = .ok (.goto (-23), 3) := by decide +kernel
theorem dX7_ease_112 : decode cX7_ease 112 = .ok (.aload_n 0, 1) := by decide +kernel
theorem dX7_ease_113 : decode cX7_ease 113 = .ok (.iload_n 3, 1) := by decide +kernel
theorem dX7_ease_114 : decode cX7_ease 114 = .ok (.iload_n 1, 1) := by decide +kernel
theorem dX7_ease_115 : decode cX7_ease 115 = .ok (.aload_n 0, 1) := by decide +kernel
theorem dX7_ease_116 : decode cX7_ease 116 = .ok (.getfield 81, 3) := by decide +kernel
theorem dX7_ease_119 : decode cX7_ease 119 = .ok (.irem, 1) := by decide +kernel
theorem dX7_ease_120 : decode cX7_ease 120 = .ok (.invokevirtual 189, 3) := by decide +kernel
theorem dX7_ease_123 : decode cX7_ease 123 = .ok (.ireturn, 1) := by decide +kernel
theorem dX7_stuck_0 : decode cX7_stuck 0 = .ok (.aload_n 0, 1) := by decide +kernel
theorem dX7_stuck_1 : decode cX7_stuck 1 = .ok (.getfield 84, 3) := by decide +kernel
theorem dX7_stuck_4 : decode cX7_stuck 4 = .ok (.ifCond .ne 6, 3) := by decide +kernel
theorem dX7_stuck_7 : decode cX7_stuck 7 = .ok (.bipush (-3), 2) := by decide +kernel
theorem dX7_stuck_9 : decode cX7_stuck 9 = .ok (.ireturn, 1) := by decide +kernel
theorem dX7_stuck_10 : decode cX7_stuck 10 = .ok (.aload_n 0, 1) := by decide +kernel
theorem dX7_stuck_11 : decode cX7_stuck 11 = .ok (.invokevirtual 201, 3) := by decide +kernel
theorem dX7_stuck_14 : decode cX7_stuck 14 = .ok (.istore_n 1, 1) := by decide +kernel
theorem dX7_stuck_15 : decode cX7_stuck 15 = .ok (.aload_n 0, 1) := by decide +kernel
theorem dX7_stuck_16 : decode cX7_stuck 16 = .ok (.invokevirtual 177, 3) := by decide +kernel
theorem dX7_stuck_19 : decode cX7_stuck 19 = .ok (.iconst 0, 1) := by decide +kernel
theorem dX7_stuck_20 : decode cX7_stuck 20 = .ok (.istore_n 2, 1) := by decide +kernel
theorem dX7_stuck_21 : decode cX7_stuck 21 = .ok (.iload_n 2, 1) := by decide +kernel
theorem dX7_stuck_22 : decode cX7_stuck 22 = .ok (.aload_n 0, 1) := by decide +kernel
theorem dX7_stuck_23 : decode cX7_stuck 23 = .ok (.getfield 84, 3) := by decide +kernel
theorem dX7_stuck_26 : decode cX7_stuck 26 = .ok (.if_icmp .ge 54, 3) := by decide +kernel
theorem dX7_stuck_29 : decode cX7_stuck 29 = .ok (.iconst 0, 1) := by decide +kernel
theorem dX7_stuck_30 : decode cX7_stuck 30 = .ok (.istore_n 3, 1) := by decide +kernel
theorem dX7_stuck_31 : decode cX7_stuck 31 = .ok (.iconst 0, 1) := by decide +kernel
theorem dX7_stuck_32 : decode cX7_stuck 32 = .ok (.istore 4, 2) := by decide +kernel
theorem dX7_stuck_34 : decode cX7_stuck 34 = .ok (.iload 4, 2) := by decide +kernel
theorem dX7_stuck_36 : decode cX7_stuck 36 = .ok (.iload_n 1, 1) := by decide +kernel
theorem dX7_stuck_37 : decode cX7_stuck 37 = .ok (.if_icmp .ge 31, 3) := by decide +kernel
theorem dX7_stuck_40 : decode cX7_stuck 40 = .ok (.iload_n 3, 1) := by decide +kernel
theorem dX7_stuck_41 : decode cX7_stuck 41 = .ok (.ifCond .ne 27, 3) := by decide +kernel
theorem dX7_stuck_44 : decode cX7_stuck 44 = .ok (.aload_n 0, 1) := by decide +kernel
theorem dX7_stuck_45 : decode cX7_stuck 45 = .ok (.iload_n 2, 1) := by decide +kernel
theorem dX7_stuck_46 : decode cX7_stuck 46 = .ok (.iload 4, 2) := by decide +kernel
theorem dX7_stuck_48 : decode cX7_stuck 48 = .ok (.invokevirtual 195, 3) := by decide +kernel
theorem dX7_stuck_51 : decode cX7_stuck 51 = .ok (.bipush (-9), 2) := by decide +kernel
theorem dX7_stuck_53 : decode cX7_stuck 53 = .ok (.if_icmp .eq 7, 3) := by decide +kernel
theorem dX7_stuck_56 : decode cX7_stuck 56 = .ok (.iconst 1, 1) := by decide +kernel
theorem dX7_stuck_57 : decode cX7_stuck 57 = .ok (.goto 4, 3) := by decide +kernel
theorem dX7_stuck_60 : decode cX7_stuck 60 = .ok (.iconst 0, 1) := by decide +kernel
theorem dX7_stuck_61 : decode cX7_stuck 61 = .ok (.istore_n 3, 1) := by decide +kernel
theorem dX7_stuck_62 : decode cX7_stuck 62 = .ok (.iinc 4 1, 3) := by decide +kernel
theorem dX7_stuck_65 : decode cX7_stuck 65 = .ok (.goto (-31), 3) := by decide +kernel
theorem dX7_stuck_68 : decode cX7_stuck 68 = .ok (.iload_n 3, 1) := by decide +kernel
theorem dX7_stuck_69 : decode cX7_stuck 69 = .ok (.ifCond .ne 5, 3) := by decide +kernel
theorem dX7_stuck_72 : decode cX7_stuck 72 = .ok (.iload_n 2, 1) := by decide +kernel
theorem dX7_stuck_73 : decode cX7_stuck 73 = .ok (.ireturn, 1) := by decide +kernel
theorem dX7_stuck_74 : decode cX7_stuck 74 = .ok (.iinc 2 1, 3) := by decide +kernel
theorem dX7_stuck_77 : decode cX7_stuck 77 = .ok (.goto (-56), 3) := by decide +kernel
theorem dX7_stuck_80 : decode cX7_stuck 80 = .ok (.bipush (-9), 2) := by decide +kernel
theorem dX7_stuck_82 : decode cX7_stuck 82 = .ok (.ireturn, 1) := by decide +kernel
theorem dX7_dueTogether_0 : decode cX7_dueTogether 0 = .ok (.aload_n 0, 1) := by decide +kernel
theorem dX7_dueTogether_1 : decode cX7_dueTogether 1 = .ok (.invokevirtual 177, 3) := by decide +kernel
theorem dX7_dueTogether_4 : decode cX7_dueTogether 4 = .ok (.iconst 0, 1) := by decide +kernel
theorem dX7_dueTogether_5 : decode cX7_dueTogether 5 = .ok (.istore_n 3, 1) := by decide +kernel
theorem dX7_dueTogether_6 : decode cX7_dueTogether 6 = .ok (.iconst 0, 1) := by decide +kernel
theorem dX7_dueTogether_7 : decode cX7_dueTogether 7 = .ok (.istore 4, 2) := by decide +kernel
theorem dX7_dueTogether_9 : decode cX7_dueTogether 9 = .ok (.iload 4, 2) := by decide +kernel
theorem dX7_dueTogether_11 : decode cX7_dueTogether 11 = .ok (.aload_n 0, 1) := by decide +kernel
theorem dX7_dueTogether_12 : decode cX7_dueTogether 12 = .ok (.getfield 84, 3) := by decide +kernel
theorem dX7_dueTogether_15 : decode cX7_dueTogether 15 = .ok (.if_icmp .ge 35, 3) := by decide +kernel
theorem dX7_dueTogether_18 : decode cX7_dueTogether 18 = .ok (.iload_n 3, 1) := by decide +kernel
theorem dX7_dueTogether_19 : decode cX7_dueTogether 19 = .ok (.aload_n 0, 1) := by decide +kernel
theorem dX7_dueTogether_20 : decode cX7_dueTogether 20 = .ok (.getfield 53, 3) := by decide +kernel
theorem dX7_dueTogether_23 : decode cX7_dueTogether 23 = .ok (.iconst 4, 1) := by decide +kernel
theorem dX7_dueTogether_24 : decode cX7_dueTogether 24 = .ok (.iload 4, 2) := by decide +kernel
theorem dX7_dueTogether_26 : decode cX7_dueTogether 26 = .ok (.imul, 1) := by decide +kernel
theorem dX7_dueTogether_27 : decode cX7_dueTogether 27 = .ok (.iload_n 1, 1) := by decide +kernel
theorem dX7_dueTogether_28 : decode cX7_dueTogether 28 = .ok (.iadd, 1) := by decide +kernel
theorem dX7_dueTogether_29 : decode cX7_dueTogether 29 = .ok (.iaload, 1) := by decide +kernel
theorem dX7_dueTogether_30 : decode cX7_dueTogether 30 = .ok (.aload_n 0, 1) := by decide +kernel
theorem dX7_dueTogether_31 : decode cX7_dueTogether 31 = .ok (.getfield 53, 3) := by decide +kernel
theorem dX7_dueTogether_34 : decode cX7_dueTogether 34 = .ok (.iconst 4, 1) := by decide +kernel
theorem dX7_dueTogether_35 : decode cX7_dueTogether 35 = .ok (.iload 4, 2) := by decide +kernel
theorem dX7_dueTogether_37 : decode cX7_dueTogether 37 = .ok (.imul, 1) := by decide +kernel
theorem dX7_dueTogether_38 : decode cX7_dueTogether 38 = .ok (.iload_n 2, 1) := by decide +kernel
theorem dX7_dueTogether_39 : decode cX7_dueTogether 39 = .ok (.iadd, 1) := by decide +kernel
theorem dX7_dueTogether_40 : decode cX7_dueTogether 40 = .ok (.iaload, 1) := by decide +kernel
theorem dX7_dueTogether_41 : decode cX7_dueTogether 41 = .ok (.iadd, 1) := by decide +kernel
theorem dX7_dueTogether_42 : decode cX7_dueTogether 42 = .ok (.iadd, 1) := by decide +kernel
theorem dX7_dueTogether_43 : decode cX7_dueTogether 43 = .ok (.istore_n 3, 1) := by decide +kernel
theorem dX7_dueTogether_44 : decode cX7_dueTogether 44 = .ok (.iinc 4 1, 3) := by decide +kernel
theorem dX7_dueTogether_47 : decode cX7_dueTogether 47 = .ok (.goto (-38), 3) := by decide +kernel
theorem dX7_dueTogether_50 : decode cX7_dueTogether 50 = .ok (.iload_n 3, 1) := by decide +kernel
theorem dX7_dueTogether_51 : decode cX7_dueTogether 51 = .ok (.ireturn, 1) := by decide +kernel
theorem dX7_help_0 : decode cX7_help 0 = .ok (.aload_n 0, 1) := by decide +kernel
theorem dX7_help_1 : decode cX7_help 1 = .ok (.iload_n 1, 1) := by decide +kernel
theorem dX7_help_2 : decode cX7_help 2 = .ok (.invokevirtual 137, 3) := by decide +kernel
theorem dX7_help_5 : decode cX7_help 5 = .ok (.ifCond .eq 16, 3) := by decide +kernel
theorem dX7_help_8 : decode cX7_help 8 = .ok (.aload_n 0, 1) := by decide +kernel
theorem dX7_help_9 : decode cX7_help 9 = .ok (.iload_n 2, 1) := by decide +kernel
theorem dX7_help_10 : decode cX7_help 10 = .ok (.invokevirtual 137, 3) := by decide +kernel
theorem dX7_help_13 : decode cX7_help 13 = .ok (.ifCond .eq 8, 3) := by decide +kernel
theorem dX7_help_16 : decode cX7_help 16 = .ok (.iload_n 1, 1) := by decide +kernel
theorem dX7_help_17 : decode cX7_help 17 = .ok (.iload_n 2, 1) := by decide +kernel
theorem dX7_help_18 : decode cX7_help 18 = .ok (.if_icmp .ne 5, 3) := by decide +kernel
theorem dX7_help_21 : decode cX7_help 21 = .ok (.iconst (-1), 1) := by decide +kernel
theorem dX7_help_22 : decode cX7_help 22 = .ok (.ireturn, 1) := by decide +kernel
theorem dX7_help_23 : decode cX7_help 23 = .ok (.aload_n 0, 1) := by decide +kernel
theorem dX7_help_24 : decode cX7_help 24 = .ok (.iload_n 3, 1) := by decide +kernel
theorem dX7_help_25 : decode cX7_help 25 = .ok (.invokevirtual 140, 3) := by decide +kernel
theorem dX7_help_28 : decode cX7_help 28 = .ok (.ifCond .ne 6, 3) := by decide +kernel
theorem dX7_help_31 : decode cX7_help 31 = .ok (.bipush (-2), 2) := by decide +kernel
theorem dX7_help_33 : decode cX7_help 33 = .ok (.ireturn, 1) := by decide +kernel
theorem dX7_help_34 : decode cX7_help 34 = .ok (.aload_n 0, 1) := by decide +kernel
theorem dX7_help_35 : decode cX7_help 35 = .ok (.iload_n 1, 1) := by decide +kernel
theorem dX7_help_36 : decode cX7_help 36 = .ok (.iload_n 2, 1) := by decide +kernel
theorem dX7_help_37 : decode cX7_help 37 = .ok (.invokevirtual 211, 3) := by decide +kernel
theorem dX7_help_40 : decode cX7_help 40 = .ok (.istore 4, 2) := by decide +kernel
theorem dX7_help_42 : decode cX7_help 42 = .ok (.aload_n 0, 1) := by decide +kernel
theorem dX7_help_43 : decode cX7_help 43 = .ok (.getfield 26, 3) := by decide +kernel
theorem dX7_help_46 : decode cX7_help 46 = .ok (.iload_n 3, 1) := by decide +kernel
theorem dX7_help_47 : decode cX7_help 47 = .ok (.iaload, 1) := by decide +kernel
theorem dX7_help_48 : decode cX7_help 48 = .ok (.istore 5, 2) := by decide +kernel
theorem dX7_help_50 : decode cX7_help 50 = .ok (.aload_n 0, 1) := by decide +kernel
theorem dX7_help_51 : decode cX7_help 51 = .ok (.getfield 29, 3) := by decide +kernel
theorem dX7_help_54 : decode cX7_help 54 = .ok (.iload_n 3, 1) := by decide +kernel
theorem dX7_help_55 : decode cX7_help 55 = .ok (.iaload, 1) := by decide +kernel
theorem dX7_help_56 : decode cX7_help 56 = .ok (.istore 6, 2) := by decide +kernel
theorem dX7_help_58 : decode cX7_help 58 = .ok (.aload_n 0, 1) := by decide +kernel
theorem dX7_help_59 : decode cX7_help 59 = .ok (.getfield 26, 3) := by decide +kernel
theorem dX7_help_62 : decode cX7_help 62 = .ok (.iload_n 3, 1) := by decide +kernel
theorem dX7_help_63 : decode cX7_help 63 = .ok (.iload_n 1, 1) := by decide +kernel
theorem dX7_help_64 : decode cX7_help 64 = .ok (.iastore, 1) := by decide +kernel
theorem dX7_help_65 : decode cX7_help 65 = .ok (.aload_n 0, 1) := by decide +kernel
theorem dX7_help_66 : decode cX7_help 66 = .ok (.getfield 29, 3) := by decide +kernel
theorem dX7_help_69 : decode cX7_help 69 = .ok (.iload_n 3, 1) := by decide +kernel
theorem dX7_help_70 : decode cX7_help 70 = .ok (.iload_n 2, 1) := by decide +kernel
theorem dX7_help_71 : decode cX7_help 71 = .ok (.iastore, 1) := by decide +kernel
theorem dX7_help_72 : decode cX7_help 72 = .ok (.aload_n 0, 1) := by decide +kernel
theorem dX7_help_73 : decode cX7_help 73 = .ok (.iload_n 1, 1) := by decide +kernel
theorem dX7_help_74 : decode cX7_help 74 = .ok (.iload_n 2, 1) := by decide +kernel
theorem dX7_help_75 : decode cX7_help 75 = .ok (.invokevirtual 211, 3) := by decide +kernel
theorem dX7_help_78 : decode cX7_help 78 = .ok (.istore 7, 2) := by decide +kernel
theorem dX7_help_80 : decode cX7_help 80 = .ok (.aload_n 0, 1) := by decide +kernel
theorem dX7_help_81 : decode cX7_help 81 = .ok (.getfield 26, 3) := by decide +kernel
theorem dX7_help_84 : decode cX7_help 84 = .ok (.iload_n 3, 1) := by decide +kernel
theorem dX7_help_85 : decode cX7_help 85 = .ok (.iload 5, 2) := by decide +kernel
theorem dX7_help_87 : decode cX7_help 87 = .ok (.iastore, 1) := by decide +kernel
theorem dX7_help_88 : decode cX7_help 88 = .ok (.aload_n 0, 1) := by decide +kernel
theorem dX7_help_89 : decode cX7_help 89 = .ok (.getfield 29, 3) := by decide +kernel
theorem dX7_help_92 : decode cX7_help 92 = .ok (.iload_n 3, 1) := by decide +kernel
theorem dX7_help_93 : decode cX7_help 93 = .ok (.iload 6, 2) := by decide +kernel
theorem dX7_help_95 : decode cX7_help 95 = .ok (.iastore, 1) := by decide +kernel
theorem dX7_help_96 : decode cX7_help 96 = .ok (.iload 4, 2) := by decide +kernel
theorem dX7_help_98 : decode cX7_help 98 = .ok (.iload 7, 2) := by decide +kernel
theorem dX7_help_100 : decode cX7_help 100 = .ok (.isub, 1) := by decide +kernel
theorem dX7_help_101 : decode cX7_help 101 = .ok (.sipush 1000, 3) := by decide +kernel
theorem dX7_help_104 : decode cX7_help 104 = .ok (.iadd, 1) := by decide +kernel
theorem dX7_help_105 : decode cX7_help 105 = .ok (.ireturn, 1) := by decide +kernel
theorem dX7_reading_0 : decode cX7_reading 0 = .ok (.aload_n 0, 1) := by decide +kernel
theorem dX7_reading_1 : decode cX7_reading 1 = .ok (.iload_n 1, 1) := by decide +kernel
theorem dX7_reading_2 : decode cX7_reading 2 = .ok (.invokevirtual 137, 3) := by decide +kernel
theorem dX7_reading_5 : decode cX7_reading 5 = .ok (.ifCond .ne 5, 3) := by decide +kernel
theorem dX7_reading_8 : decode cX7_reading 8 = .ok (.iconst (-1), 1) := by decide +kernel
theorem dX7_reading_9 : decode cX7_reading 9 = .ok (.ireturn, 1) := by decide +kernel
theorem dX7_reading_10 : decode cX7_reading 10 = .ok (.iload_n 2, 1) := by decide +kernel
theorem dX7_reading_11 : decode cX7_reading 11 = .ok (.iconst 0, 1) := by decide +kernel
theorem dX7_reading_12 : decode cX7_reading 12 = .ok (.aload_n 0, 1) := by decide +kernel
theorem dX7_reading_13 : decode cX7_reading 13 = .ok (.getfield 84, 3) := by decide +kernel
theorem dX7_reading_16 : decode cX7_reading 16 = .ok (.invokestatic 77, 3) := by decide +kernel
theorem dX7_reading_19 : decode cX7_reading 19 = .ok (.ifCond .eq 12, 3) := by decide +kernel
theorem dX7_reading_22 : decode cX7_reading 22 = .ok (.iload_n 3, 1) := by decide +kernel
theorem dX7_reading_23 : decode cX7_reading 23 = .ok (.iconst 0, 1) := by decide +kernel
theorem dX7_reading_24 : decode cX7_reading 24 = .ok (.iconst 2, 1) := by decide +kernel
theorem dX7_reading_25 : decode cX7_reading 25 = .ok (.invokestatic 77, 3) := by decide +kernel
theorem dX7_reading_28 : decode cX7_reading 28 = .ok (.ifCond .ne 6, 3) := by decide +kernel
theorem dX7_reading_31 : decode cX7_reading 31 = .ok (.bipush (-2), 2) := by decide +kernel
theorem dX7_reading_33 : decode cX7_reading 33 = .ok (.ireturn, 1) := by decide +kernel
theorem dX7_reading_34 : decode cX7_reading 34 = .ok (.aload_n 0, 1) := by decide +kernel
theorem dX7_reading_35 : decode cX7_reading 35 = .ok (.getfield 123, 3) := by decide +kernel
theorem dX7_reading_38 : decode cX7_reading 38 = .ok (.bipush 8, 2) := by decide +kernel
theorem dX7_reading_40 : decode cX7_reading 40 = .ok (.if_icmp .ne 6, 3) := by decide +kernel
theorem dX7_reading_43 : decode cX7_reading 43 = .ok (.bipush (-4), 2) := by decide +kernel
theorem dX7_reading_45 : decode cX7_reading 45 = .ok (.ireturn, 1) := by decide +kernel
theorem dX7_reading_46 : decode cX7_reading 46 = .ok (.aload_n 0, 1) := by decide +kernel
theorem dX7_reading_47 : decode cX7_reading 47 = .ok (.getfield 62, 3) := by decide +kernel
theorem dX7_reading_50 : decode cX7_reading 50 = .ok (.aload_n 0, 1) := by decide +kernel
theorem dX7_reading_51 : decode cX7_reading 51 = .ok (.getfield 123, 3) := by decide +kernel
theorem dX7_reading_54 : decode cX7_reading 54 = .ok (.iload_n 1, 1) := by decide +kernel
theorem dX7_reading_55 : decode cX7_reading 55 = .ok (.iastore, 1) := by decide +kernel
theorem dX7_reading_56 : decode cX7_reading 56 = .ok (.aload_n 0, 1) := by decide +kernel
theorem dX7_reading_57 : decode cX7_reading 57 = .ok (.getfield 65, 3) := by decide +kernel
theorem dX7_reading_60 : decode cX7_reading 60 = .ok (.aload_n 0, 1) := by decide +kernel
theorem dX7_reading_61 : decode cX7_reading 61 = .ok (.getfield 123, 3) := by decide +kernel
theorem dX7_reading_64 : decode cX7_reading 64 = .ok (.iload_n 2, 1) := by decide +kernel
theorem dX7_reading_65 : decode cX7_reading 65 = .ok (.iastore, 1) := by decide +kernel
theorem dX7_reading_66 : decode cX7_reading 66 = .ok (.aload_n 0, 1) := by decide +kernel
theorem dX7_reading_67 : decode cX7_reading 67 = .ok (.getfield 68, 3) := by decide +kernel
theorem dX7_reading_70 : decode cX7_reading 70 = .ok (.aload_n 0, 1) := by decide +kernel
theorem dX7_reading_71 : decode cX7_reading 71 = .ok (.getfield 123, 3) := by decide +kernel
theorem dX7_reading_74 : decode cX7_reading 74 = .ok (.iload_n 3, 1) := by decide +kernel
theorem dX7_reading_75 : decode cX7_reading 75 = .ok (.iastore, 1) := by decide +kernel
theorem dX7_reading_76 : decode cX7_reading 76 = .ok (.aload_n 0, 1) := by decide +kernel
theorem dX7_reading_77 : decode cX7_reading 77 = .ok (.dup, 1) := by decide +kernel
theorem dX7_reading_78 : decode cX7_reading 78 = .ok (.getfield 123, 3) := by decide +kernel
theorem dX7_reading_81 : decode cX7_reading 81 = .ok (.iconst 1, 1) := by decide +kernel
theorem dX7_reading_82 : decode cX7_reading 82 = .ok (.iadd, 1) := by decide +kernel
theorem dX7_reading_83 : decode cX7_reading 83 = .ok (.putfield 123, 3) := by decide +kernel
theorem dX7_reading_86 : decode cX7_reading 86 = .ok (.aload_n 0, 1) := by decide +kernel
theorem dX7_reading_87 : decode cX7_reading 87 = .ok (.getfield 123, 3) := by decide +kernel
theorem dX7_reading_90 : decode cX7_reading 90 = .ok (.iconst 1, 1) := by decide +kernel
theorem dX7_reading_91 : decode cX7_reading 91 = .ok (.isub, 1) := by decide +kernel
theorem dX7_reading_92 : decode cX7_reading 92 = .ok (.ireturn, 1) := by decide +kernel
theorem dX7_back_0 : decode cX7_back 0 = .ok (.iload_n 1, 1) := by decide +kernel
theorem dX7_back_1 : decode cX7_back 1 = .ok (.iconst 0, 1) := by decide +kernel
theorem dX7_back_2 : decode cX7_back 2 = .ok (.aload_n 0, 1) := by decide +kernel
theorem dX7_back_3 : decode cX7_back 3 = .ok (.getfield 123, 3) := by decide +kernel
theorem dX7_back_6 : decode cX7_back 6 = .ok (.invokestatic 77, 3) := by decide +kernel
theorem dX7_back_9 : decode cX7_back 9 = .ok (.ifCond .ne 6, 3) := by decide +kernel
theorem dX7_back_12 : decode cX7_back 12 = .ok (.bipush (-2), 2) := by decide +kernel
theorem dX7_back_14 : decode cX7_back 14 = .ok (.ireturn, 1) := by decide +kernel
theorem dX7_back_15 : decode cX7_back 15 = .ok (.aload_n 0, 1) := by decide +kernel
theorem dX7_back_16 : decode cX7_back 16 = .ok (.dup, 1) := by decide +kernel
theorem dX7_back_17 : decode cX7_back 17 = .ok (.getfield 123, 3) := by decide +kernel
theorem dX7_back_20 : decode cX7_back 20 = .ok (.iload_n 1, 1) := by decide +kernel
theorem dX7_back_21 : decode cX7_back 21 = .ok (.isub, 1) := by decide +kernel
theorem dX7_back_22 : decode cX7_back 22 = .ok (.putfield 123, 3) := by decide +kernel
theorem dX7_back_25 : decode cX7_back 25 = .ok (.aload_n 0, 1) := by decide +kernel
theorem dX7_back_26 : decode cX7_back 26 = .ok (.getfield 123, 3) := by decide +kernel
theorem dX7_back_29 : decode cX7_back 29 = .ok (.ireturn, 1) := by decide +kernel
theorem dX7_areSoIn_0 : decode cX7_areSoIn 0 = .ok (.iconst 0, 1) := by decide +kernel
theorem dX7_areSoIn_1 : decode cX7_areSoIn 1 = .ok (.istore_n 2, 1) := by decide +kernel
theorem dX7_areSoIn_2 : decode cX7_areSoIn 2 = .ok (.iload_n 2, 1) := by decide +kernel
theorem dX7_areSoIn_3 : decode cX7_areSoIn 3 = .ok (.aload_n 0, 1) := by decide +kernel
theorem dX7_areSoIn_4 : decode cX7_areSoIn 4 = .ok (.getfield 123, 3) := by decide +kernel
theorem dX7_areSoIn_7 : decode cX7_areSoIn 7 = .ok (.if_icmp .ge 45, 3) := by decide +kernel
theorem dX7_areSoIn_10 : decode cX7_areSoIn 10 = .ok (.aload_n 0, 1) := by decide +kernel
theorem dX7_areSoIn_11 : decode cX7_areSoIn 11 = .ok (.getfield 65, 3) := by decide +kernel
theorem dX7_areSoIn_14 : decode cX7_areSoIn 14 = .ok (.iload_n 2, 1) := by decide +kernel
theorem dX7_areSoIn_15 : decode cX7_areSoIn 15 = .ok (.iaload, 1) := by decide +kernel
theorem dX7_areSoIn_16 : decode cX7_areSoIn 16 = .ok (.iload_n 1, 1) := by decide +kernel
theorem dX7_areSoIn_17 : decode cX7_areSoIn 17 = .ok (.if_icmp .ne 29, 3) := by decide +kernel
theorem dX7_areSoIn_20 : decode cX7_areSoIn 20 = .ok (.aload_n 0, 1) := by decide +kernel
theorem dX7_areSoIn_21 : decode cX7_areSoIn 21 = .ok (.aload_n 0, 1) := by decide +kernel
theorem dX7_areSoIn_22 : decode cX7_areSoIn 22 = .ok (.getfield 50, 3) := by decide +kernel
theorem dX7_areSoIn_25 : decode cX7_areSoIn 25 = .ok (.aload_n 0, 1) := by decide +kernel
theorem dX7_areSoIn_26 : decode cX7_areSoIn 26 = .ok (.getfield 62, 3) := by decide +kernel
theorem dX7_areSoIn_29 : decode cX7_areSoIn 29 = .ok (.iload_n 2, 1) := by decide +kernel
theorem dX7_areSoIn_30 : decode cX7_areSoIn 30 = .ok (.iaload, 1) := by decide +kernel
theorem dX7_areSoIn_31 : decode cX7_areSoIn 31 = .ok (.iaload, 1) := by decide +kernel
theorem dX7_areSoIn_32 : decode cX7_areSoIn 32 = .ok (.invokevirtual 165, 3) := by decide +kernel
theorem dX7_areSoIn_35 : decode cX7_areSoIn 35 = .ok (.aload_n 0, 1) := by decide +kernel
theorem dX7_areSoIn_36 : decode cX7_areSoIn 36 = .ok (.getfield 68, 3) := by decide +kernel
theorem dX7_areSoIn_39 : decode cX7_areSoIn 39 = .ok (.iload_n 2, 1) := by decide +kernel
theorem dX7_areSoIn_40 : decode cX7_areSoIn 40 = .ok (.iaload, 1) := by decide +kernel
theorem dX7_areSoIn_41 : decode cX7_areSoIn 41 = .ok (.if_icmp .eq 5, 3) := by decide +kernel
theorem dX7_areSoIn_44 : decode cX7_areSoIn 44 = .ok (.iconst 0, 1) := by decide +kernel
theorem dX7_areSoIn_45 : decode cX7_areSoIn 45 = .ok (.ireturn, 1) := by decide +kernel
theorem dX7_areSoIn_46 : decode cX7_areSoIn 46 = .ok (.iinc 2 1, 3) := by decide +kernel
theorem dX7_areSoIn_49 : decode cX7_areSoIn 49 = .ok (.goto (-47), 3) := by decide +kernel
theorem dX7_areSoIn_52 : decode cX7_areSoIn 52 = .ok (.iconst 1, 1) := by decide +kernel
theorem dX7_areSoIn_53 : decode cX7_areSoIn 53 = .ok (.ireturn, 1) := by decide +kernel
theorem dX7_areSo_0 : decode cX7_areSo 0 = .ok (.aload_n 0, 1) := by decide +kernel
theorem dX7_areSo_1 : decode cX7_areSo 1 = .ok (.invokevirtual 150, 3) := by decide +kernel
theorem dX7_areSo_4 : decode cX7_areSo 4 = .ok (.iconst 0, 1) := by decide +kernel
theorem dX7_areSo_5 : decode cX7_areSo 5 = .ok (.istore_n 1, 1) := by decide +kernel
theorem dX7_areSo_6 : decode cX7_areSo 6 = .ok (.iload_n 1, 1) := by decide +kernel
theorem dX7_areSo_7 : decode cX7_areSo 7 = .ok (.aload_n 0, 1) := by decide +kernel
theorem dX7_areSo_8 : decode cX7_areSo 8 = .ok (.getfield 84, 3) := by decide +kernel
theorem dX7_areSo_11 : decode cX7_areSo 11 = .ok (.if_icmp .ge 30, 3) := by decide +kernel
theorem dX7_areSo_14 : decode cX7_areSo 14 = .ok (.aload_n 0, 1) := by decide +kernel
theorem dX7_areSo_15 : decode cX7_areSo 15 = .ok (.iload_n 1, 1) := by decide +kernel
theorem dX7_areSo_16 : decode cX7_areSo 16 = .ok (.invokevirtual 214, 3) := by decide +kernel
theorem dX7_areSo_19 : decode cX7_areSo 19 = .ok (.ifCond .ne 5, 3) := by decide +kernel
theorem dX7_areSo_22 : decode cX7_areSo 22 = .ok (.iconst 0, 1) := by decide +kernel
theorem dX7_areSo_23 : decode cX7_areSo 23 = .ok (.ireturn, 1) := by decide +kernel
theorem dX7_areSo_24 : decode cX7_areSo 24 = .ok (.aload_n 0, 1) := by decide +kernel
theorem dX7_areSo_25 : decode cX7_areSo 25 = .ok (.iload_n 1, 1) := by decide +kernel
theorem dX7_areSo_26 : decode cX7_areSo 26 = .ok (.aload_n 0, 1) := by decide +kernel
theorem dX7_areSo_27 : decode cX7_areSo 27 = .ok (.getfield 22, 3) := by decide +kernel
theorem dX7_areSo_30 : decode cX7_areSo 30 = .ok (.iload_n 1, 1) := by decide +kernel
theorem dX7_areSo_31 : decode cX7_areSo 31 = .ok (.baload, 1) := by decide +kernel
theorem dX7_areSo_32 : decode cX7_areSo 32 = .ok (.invokevirtual 153, 3) := by decide +kernel
theorem dX7_areSo_35 : decode cX7_areSo 35 = .ok (.iinc 1 1, 3) := by decide +kernel
theorem dX7_areSo_38 : decode cX7_areSo 38 = .ok (.goto (-32), 3) := by decide +kernel
theorem dX7_areSo_41 : decode cX7_areSo 41 = .ok (.aload_n 0, 1) := by decide +kernel
theorem dX7_areSo_42 : decode cX7_areSo 42 = .ok (.aload_n 0, 1) := by decide +kernel
theorem dX7_areSo_43 : decode cX7_areSo 43 = .ok (.getfield 84, 3) := by decide +kernel
theorem dX7_areSo_46 : decode cX7_areSo 46 = .ok (.invokevirtual 214, 3) := by decide +kernel
theorem dX7_areSo_49 : decode cX7_areSo 49 = .ok (.ireturn, 1) := by decide +kernel
theorem dX7_began_0 : decode cX7_began 0 = .ok (.aload_n 0, 1) := by decide +kernel
theorem dX7_began_1 : decode cX7_began 1 = .ok (.iload_n 1, 1) := by decide +kernel
theorem dX7_began_2 : decode cX7_began 2 = .ok (.invokevirtual 137, 3) := by decide +kernel
theorem dX7_began_5 : decode cX7_began 5 = .ok (.ifCond .ne 5, 3) := by decide +kernel
theorem dX7_began_8 : decode cX7_began 8 = .ok (.iconst (-1), 1) := by decide +kernel
theorem dX7_began_9 : decode cX7_began 9 = .ok (.ireturn, 1) := by decide +kernel
theorem dX7_began_10 : decode cX7_began 10 = .ok (.iload_n 2, 1) := by decide +kernel
theorem dX7_began_11 : decode cX7_began 11 = .ok (.iconst 0, 1) := by decide +kernel
theorem dX7_began_12 : decode cX7_began 12 = .ok (.iconst 1, 1) := by decide +kernel
theorem dX7_began_13 : decode cX7_began 13 = .ok (.invokestatic 77, 3) := by decide +kernel
theorem dX7_began_16 : decode cX7_began 16 = .ok (.ifCond .ne 6, 3) := by decide +kernel
theorem dX7_began_19 : decode cX7_began 19 = .ok (.bipush (-2), 2) := by decide +kernel
theorem dX7_began_21 : decode cX7_began 21 = .ok (.ireturn, 1) := by decide +kernel
theorem dX7_began_22 : decode cX7_began 22 = .ok (.aload_n 0, 1) := by decide +kernel
theorem dX7_began_23 : decode cX7_began 23 = .ok (.getfield 35, 3) := by decide +kernel
theorem dX7_began_26 : decode cX7_began 26 = .ok (.iload_n 1, 1) := by decide +kernel
theorem dX7_began_27 : decode cX7_began 27 = .ok (.iaload, 1) := by decide +kernel
theorem dX7_began_28 : decode cX7_began 28 = .ok (.istore_n 3, 1) := by decide +kernel
theorem dX7_began_29 : decode cX7_began 29 = .ok (.iconst 0, 1) := by decide +kernel
theorem dX7_began_30 : decode cX7_began 30 = .ok (.istore 4, 2) := by decide +kernel
theorem dX7_began_32 : decode cX7_began 32 = .ok (.bipush (-9), 2) := by decide +kernel
theorem dX7_began_34 : decode cX7_began 34 = .ok (.istore 5, 2) := by decide +kernel
theorem dX7_began_36 : decode cX7_began 36 = .ok (.iconst 0, 1) := by decide +kernel
theorem dX7_began_37 : decode cX7_began 37 = .ok (.istore 6, 2) := by decide +kernel
theorem dX7_began_39 : decode cX7_began 39 = .ok (.iload 6, 2) := by decide +kernel
theorem dX7_began_41 : decode cX7_began 41 = .ok (.bipush 59, 2) := by decide +kernel
theorem dX7_began_43 : decode cX7_began 43 = .ok (.if_icmp .gt 41, 3) := by decide +kernel
theorem dX7_began_46 : decode cX7_began 46 = .ok (.aload_n 0, 1) := by decide +kernel
theorem dX7_began_47 : decode cX7_began 47 = .ok (.getfield 35, 3) := by decide +kernel
theorem dX7_began_50 : decode cX7_began 50 = .ok (.iload_n 1, 1) := by decide +kernel
theorem dX7_began_51 : decode cX7_began 51 = .ok (.iload 6, 2) := by decide +kernel
theorem dX7_began_53 : decode cX7_began 53 = .ok (.iastore, 1) := by decide +kernel
theorem dX7_began_54 : decode cX7_began 54 = .ok (.aload_n 0, 1) := by decide +kernel
theorem dX7_began_55 : decode cX7_began 55 = .ok (.invokevirtual 217, 3) := by decide +kernel
theorem dX7_began_58 : decode cX7_began 58 = .ok (.ifCond .eq 20, 3) := by decide +kernel
theorem dX7_began_61 : decode cX7_began 61 = .ok (.iload 4, 2) := by decide +kernel
theorem dX7_began_63 : decode cX7_began 63 = .ok (.ifCond .ne 8, 3) := by decide +kernel
theorem dX7_began_66 : decode cX7_began 66 = .ok (.iload 6, 2) := by decide +kernel
theorem dX7_began_68 : decode cX7_began 68 = .ok (.goto 5, 3) := by decide +kernel
theorem dX7_began_71 : decode cX7_began 71 = .ok (.iload 5, 2) := by decide +kernel
theorem dX7_began_73 : decode cX7_began 73 = .ok (.istore 5, 2) := by decide +kernel
theorem dX7_began_75 : decode cX7_began 75 = .ok (.iinc 4 1, 3) := by decide +kernel
theorem dX7_began_78 : decode cX7_began 78 = .ok (.iinc 6 1, 3) := by decide +kernel
theorem dX7_began_81 : decode cX7_began 81 = .ok (.goto (-42), 3) := by decide +kernel
theorem dX7_began_84 : decode cX7_began 84 = .ok (.aload_n 0, 1) := by decide +kernel
theorem dX7_began_85 : decode cX7_began 85 = .ok (.getfield 35, 3) := by decide +kernel
theorem dX7_began_88 : decode cX7_began 88 = .ok (.iload_n 1, 1) := by decide +kernel
theorem dX7_began_89 : decode cX7_began 89 = .ok (.iload_n 3, 1) := by decide +kernel
theorem dX7_began_90 : decode cX7_began 90 = .ok (.iastore, 1) := by decide +kernel
theorem dX7_began_91 : decode cX7_began 91 = .ok (.iload_n 2, 1) := by decide +kernel
theorem dX7_began_92 : decode cX7_began 92 = .ok (.ifCond .ne 8, 3) := by decide +kernel
theorem dX7_began_95 : decode cX7_began 95 = .ok (.iload 4, 2) := by decide +kernel
theorem dX7_began_97 : decode cX7_began 97 = .ok (.goto 5, 3) := by decide +kernel
theorem dX7_began_100 : decode cX7_began 100 = .ok (.iload 5, 2) := by decide +kernel
theorem dX7_began_102 : decode cX7_began 102 = .ok (.ireturn, 1) := by decide +kernel
theorem dX7_kinds_0 : decode cX7_kinds 0 = .ok (.aload_n 0, 1) := by decide +kernel
theorem dX7_kinds_1 : decode cX7_kinds 1 = .ok (.iload_n 1, 1) := by decide +kernel
theorem dX7_kinds_2 : decode cX7_kinds 2 = .ok (.invokevirtual 137, 3) := by decide +kernel
theorem dX7_kinds_5 : decode cX7_kinds 5 = .ok (.ifCond .ne 5, 3) := by decide +kernel
theorem dX7_kinds_8 : decode cX7_kinds 8 = .ok (.iconst (-1), 1) := by decide +kernel
theorem dX7_kinds_9 : decode cX7_kinds 9 = .ok (.ireturn, 1) := by decide +kernel
theorem dX7_kinds_10 : decode cX7_kinds 10 = .ok (.aload_n 0, 1) := by decide +kernel
theorem dX7_kinds_11 : decode cX7_kinds 11 = .ok (.getfield 32, 3) := by decide +kernel
theorem dX7_kinds_14 : decode cX7_kinds 14 = .ok (.iload_n 1, 1) := by decide +kernel
theorem dX7_kinds_15 : decode cX7_kinds 15 = .ok (.iaload, 1) := by decide +kernel
theorem dX7_kinds_16 : decode cX7_kinds 16 = .ok (.istore_n 2, 1) := by decide +kernel
theorem dX7_kinds_17 : decode cX7_kinds 17 = .ok (.iconst 0, 1) := by decide +kernel
theorem dX7_kinds_18 : decode cX7_kinds 18 = .ok (.istore_n 3, 1) := by decide +kernel
theorem dX7_kinds_19 : decode cX7_kinds 19 = .ok (.iconst 0, 1) := by decide +kernel
theorem dX7_kinds_20 : decode cX7_kinds 20 = .ok (.istore 4, 2) := by decide +kernel
theorem dX7_kinds_22 : decode cX7_kinds 22 = .ok (.iload 4, 2) := by decide +kernel
theorem dX7_kinds_24 : decode cX7_kinds 24 = .ok (.iconst 3, 1) := by decide +kernel
theorem dX7_kinds_25 : decode cX7_kinds 25 = .ok (.if_icmp .ge 35, 3) := by decide +kernel
theorem dX7_kinds_28 : decode cX7_kinds 28 = .ok (.aload_n 0, 1) := by decide +kernel
theorem dX7_kinds_29 : decode cX7_kinds 29 = .ok (.getfield 32, 3) := by decide +kernel
theorem dX7_kinds_32 : decode cX7_kinds 32 = .ok (.iload_n 1, 1) := by decide +kernel
theorem dX7_kinds_33 : decode cX7_kinds 33 = .ok (.iload 4, 2) := by decide +kernel
theorem dX7_kinds_35 : decode cX7_kinds 35 = .ok (.iastore, 1) := by decide +kernel
theorem dX7_kinds_36 : decode cX7_kinds 36 = .ok (.iload_n 3, 1) := by decide +kernel
theorem dX7_kinds_37 : decode cX7_kinds 37 = .ok (.aload_n 0, 1) := by decide +kernel
theorem dX7_kinds_38 : decode cX7_kinds 38 = .ok (.invokevirtual 217, 3) := by decide +kernel
theorem dX7_kinds_41 : decode cX7_kinds 41 = .ok (.ifCond .eq 10, 3) := by decide +kernel
theorem dX7_kinds_44 : decode cX7_kinds 44 = .ok (.iconst 1, 1) := by decide +kernel
theorem dX7_kinds_45 : decode cX7_kinds 45 = .ok (.iload 4, 2) := by decide +kernel
theorem dX7_kinds_47 : decode cX7_kinds 47 = .ok (.ishl, 1) := by decide +kernel
theorem dX7_kinds_48 : decode cX7_kinds 48 = .ok (.goto 4, 3) := by decide +kernel
theorem dX7_kinds_51 : decode cX7_kinds 51 = .ok (.iconst 0, 1) := by decide +kernel
theorem dX7_kinds_52 : decode cX7_kinds 52 = .ok (.ior, 1) := by decide +kernel
theorem dX7_kinds_53 : decode cX7_kinds 53 = .ok (.istore_n 3, 1) := by decide +kernel
theorem dX7_kinds_54 : decode cX7_kinds 54 = .ok (.iinc 4 1, 3) := by decide +kernel
theorem dX7_kinds_57 : decode cX7_kinds 57 = .ok (.goto (-35), 3) := by decide +kernel
theorem dX7_kinds_60 : decode cX7_kinds 60 = .ok (.aload_n 0, 1) := by decide +kernel
theorem dX7_kinds_61 : decode cX7_kinds 61 = .ok (.getfield 32, 3) := by decide +kernel
theorem dX7_kinds_64 : decode cX7_kinds 64 = .ok (.iload_n 1, 1) := by decide +kernel
theorem dX7_kinds_65 : decode cX7_kinds 65 = .ok (.iload_n 2, 1) := by decide +kernel
theorem dX7_kinds_66 : decode cX7_kinds 66 = .ok (.iastore, 1) := by decide +kernel
theorem dX7_kinds_67 : decode cX7_kinds 67 = .ok (.iload_n 3, 1) := by decide +kernel
theorem dX7_kinds_68 : decode cX7_kinds 68 = .ok (.ireturn, 1) := by decide +kernel
theorem dX7_fadings_0 : decode cX7_fadings 0 = .ok (.aload_n 0, 1) := by decide +kernel
theorem dX7_fadings_1 : decode cX7_fadings 1 = .ok (.iload_n 1, 1) := by decide +kernel
theorem dX7_fadings_2 : decode cX7_fadings 2 = .ok (.invokevirtual 137, 3) := by decide +kernel
theorem dX7_fadings_5 : decode cX7_fadings 5 = .ok (.ifCond .ne 5, 3) := by decide +kernel
theorem dX7_fadings_8 : decode cX7_fadings 8 = .ok (.iconst (-1), 1) := by decide +kernel
theorem dX7_fadings_9 : decode cX7_fadings 9 = .ok (.ireturn, 1) := by decide +kernel
theorem dX7_fadings_10 : decode cX7_fadings 10 = .ok (.aload_n 0, 1) := by decide +kernel
theorem dX7_fadings_11 : decode cX7_fadings 11 = .ok (.getfield 38, 3) := by decide +kernel
theorem dX7_fadings_14 : decode cX7_fadings 14 = .ok (.iload_n 1, 1) := by decide +kernel
theorem dX7_fadings_15 : decode cX7_fadings 15 = .ok (.iaload, 1) := by decide +kernel
theorem dX7_fadings_16 : decode cX7_fadings 16 = .ok (.istore_n 2, 1) := by decide +kernel
theorem dX7_fadings_17 : decode cX7_fadings 17 = .ok (.iconst 0, 1) := by decide +kernel
theorem dX7_fadings_18 : decode cX7_fadings 18 = .ok (.istore_n 3, 1) := by decide +kernel
theorem dX7_fadings_19 : decode cX7_fadings 19 = .ok (.iconst 0, 1) := by decide +kernel
theorem dX7_fadings_20 : decode cX7_fadings 20 = .ok (.istore 4, 2) := by decide +kernel
theorem dX7_fadings_22 : decode cX7_fadings 22 = .ok (.iload 4, 2) := by decide +kernel
theorem dX7_fadings_24 : decode cX7_fadings 24 = .ok (.bipush 9, 2) := by decide +kernel
theorem dX7_fadings_26 : decode cX7_fadings 26 = .ok (.if_icmp .gt 35, 3) := by decide +kernel
theorem dX7_fadings_29 : decode cX7_fadings 29 = .ok (.aload_n 0, 1) := by decide +kernel
theorem dX7_fadings_30 : decode cX7_fadings 30 = .ok (.getfield 38, 3) := by decide +kernel
theorem dX7_fadings_33 : decode cX7_fadings 33 = .ok (.iload_n 1, 1) := by decide +kernel
theorem dX7_fadings_34 : decode cX7_fadings 34 = .ok (.iload 4, 2) := by decide +kernel
theorem dX7_fadings_36 : decode cX7_fadings 36 = .ok (.iastore, 1) := by decide +kernel
theorem dX7_fadings_37 : decode cX7_fadings 37 = .ok (.iload_n 3, 1) := by decide +kernel
theorem dX7_fadings_38 : decode cX7_fadings 38 = .ok (.aload_n 0, 1) := by decide +kernel
theorem dX7_fadings_39 : decode cX7_fadings 39 = .ok (.invokevirtual 217, 3) := by decide +kernel
theorem dX7_fadings_42 : decode cX7_fadings 42 = .ok (.ifCond .eq 10, 3) := by decide +kernel
theorem dX7_fadings_45 : decode cX7_fadings 45 = .ok (.iconst 1, 1) := by decide +kernel
theorem dX7_fadings_46 : decode cX7_fadings 46 = .ok (.iload 4, 2) := by decide +kernel
theorem dX7_fadings_48 : decode cX7_fadings 48 = .ok (.ishl, 1) := by decide +kernel
theorem dX7_fadings_49 : decode cX7_fadings 49 = .ok (.goto 4, 3) := by decide +kernel
theorem dX7_fadings_52 : decode cX7_fadings 52 = .ok (.iconst 0, 1) := by decide +kernel
theorem dX7_fadings_53 : decode cX7_fadings 53 = .ok (.ior, 1) := by decide +kernel
theorem dX7_fadings_54 : decode cX7_fadings 54 = .ok (.istore_n 3, 1) := by decide +kernel
theorem dX7_fadings_55 : decode cX7_fadings 55 = .ok (.iinc 4 1, 3) := by decide +kernel
theorem dX7_fadings_58 : decode cX7_fadings 58 = .ok (.goto (-36), 3) := by decide +kernel
theorem dX7_fadings_61 : decode cX7_fadings 61 = .ok (.aload_n 0, 1) := by decide +kernel
theorem dX7_fadings_62 : decode cX7_fadings 62 = .ok (.getfield 38, 3) := by decide +kernel
theorem dX7_fadings_65 : decode cX7_fadings 65 = .ok (.iload_n 1, 1) := by decide +kernel
theorem dX7_fadings_66 : decode cX7_fadings 66 = .ok (.iload_n 2, 1) := by decide +kernel
theorem dX7_fadings_67 : decode cX7_fadings 67 = .ok (.iastore, 1) := by decide +kernel
theorem dX7_fadings_68 : decode cX7_fadings 68 = .ok (.iload_n 3, 1) := by decide +kernel
theorem dX7_fadings_69 : decode cX7_fadings 69 = .ok (.ireturn, 1) := by decide +kernel
theorem dX7_inLeastTerms_0 : decode cX7_inLeastTerms 0 = .ok (.lload_n 0, 1) := by decide +kernel
theorem dX7_inLeastTerms_1 : decode cX7_inLeastTerms 1 = .ok (.lstore 5, 2) := by decide +kernel
theorem dX7_inLeastTerms_3 : decode cX7_inLeastTerms 3 = .ok (.lload_n 2, 1) := by decide +kernel
theorem dX7_inLeastTerms_4 : decode cX7_inLeastTerms 4 = .ok (.lstore 7, 2) := by decide +kernel
theorem dX7_inLeastTerms_6 : decode cX7_inLeastTerms 6 = .ok (.lload 7, 2) := by decide +kernel
theorem dX7_inLeastTerms_8 : decode cX7_inLeastTerms 8 = .ok (.lconst 0, 1) := by decide +kernel
theorem dX7_inLeastTerms_9 : decode cX7_inLeastTerms 9 = .ok (.lcmp, 1) := by decide +kernel
theorem dX7_inLeastTerms_10 : decode cX7_inLeastTerms 10 = .ok (.ifCond .eq 21, 3) := by decide +kernel
theorem dX7_inLeastTerms_13 : decode cX7_inLeastTerms 13 = .ok (.lload 5, 2) := by decide +kernel
theorem dX7_inLeastTerms_15 : decode cX7_inLeastTerms 15 = .ok (.lload 7, 2) := by decide +kernel
theorem dX7_inLeastTerms_17 : decode cX7_inLeastTerms 17 = .ok (.lrem, 1) := by decide +kernel
theorem dX7_inLeastTerms_18 : decode cX7_inLeastTerms 18 = .ok (.lstore 9, 2) := by decide +kernel
theorem dX7_inLeastTerms_20 : decode cX7_inLeastTerms 20 = .ok (.lload 7, 2) := by decide +kernel
theorem dX7_inLeastTerms_22 : decode cX7_inLeastTerms 22 = .ok (.lstore 5, 2) := by decide +kernel
theorem dX7_inLeastTerms_24 : decode cX7_inLeastTerms 24 = .ok (.lload 9, 2) := by decide +kernel
theorem dX7_inLeastTerms_26 : decode cX7_inLeastTerms 26 = .ok (.lstore 7, 2) := by decide +kernel
theorem dX7_inLeastTerms_28 : decode cX7_inLeastTerms 28 = .ok (.goto (-22), 3) := by decide +kernel
theorem dX7_inLeastTerms_31 : decode cX7_inLeastTerms 31 = .ok (.iload 4, 2) := by decide +kernel
theorem dX7_inLeastTerms_33 : decode cX7_inLeastTerms 33 = .ok (.ifCond .ne 10, 3) := by decide +kernel
theorem dX7_inLeastTerms_36 : decode cX7_inLeastTerms 36 = .ok (.lload_n 0, 1) := by decide +kernel
theorem dX7_inLeastTerms_37 : decode cX7_inLeastTerms 37 = .ok (.lload 5, 2) := by decide +kernel
theorem dX7_inLeastTerms_39 : decode cX7_inLeastTerms 39 = .ok (.ldiv, 1) := by decide +kernel
theorem dX7_inLeastTerms_40 : decode cX7_inLeastTerms 40 = .ok (.goto 7, 3) := by decide +kernel
theorem dX7_inLeastTerms_43 : decode cX7_inLeastTerms 43 = .ok (.lload_n 2, 1) := by decide +kernel
theorem dX7_inLeastTerms_44 : decode cX7_inLeastTerms 44 = .ok (.lload 5, 2) := by decide +kernel
theorem dX7_inLeastTerms_46 : decode cX7_inLeastTerms 46 = .ok (.ldiv, 1) := by decide +kernel
theorem dX7_inLeastTerms_47 : decode cX7_inLeastTerms 47 = .ok (.lreturn, 1) := by decide +kernel
theorem dX7_odds_0 : decode cX7_odds 0 = .ok (.aload_n 0, 1) := by decide +kernel
theorem dX7_odds_1 : decode cX7_odds 1 = .ok (.iload_n 1, 1) := by decide +kernel
theorem dX7_odds_2 : decode cX7_odds 2 = .ok (.invokevirtual 137, 3) := by decide +kernel
theorem dX7_odds_5 : decode cX7_odds 5 = .ok (.ifCond .eq 21, 3) := by decide +kernel
theorem dX7_odds_8 : decode cX7_odds 8 = .ok (.iload_n 2, 1) := by decide +kernel
theorem dX7_odds_9 : decode cX7_odds 9 = .ok (.iconst 0, 1) := by decide +kernel
theorem dX7_odds_10 : decode cX7_odds 10 = .ok (.iconst 2, 1) := by decide +kernel
theorem dX7_odds_11 : decode cX7_odds 11 = .ok (.invokestatic 77, 3) := by decide +kernel
theorem dX7_odds_14 : decode cX7_odds 14 = .ok (.ifCond .eq 12, 3) := by decide +kernel
theorem dX7_odds_17 : decode cX7_odds 17 = .ok (.iload_n 3, 1) := by decide +kernel
theorem dX7_odds_18 : decode cX7_odds 18 = .ok (.iconst 0, 1) := by decide +kernel
theorem dX7_odds_19 : decode cX7_odds 19 = .ok (.iconst 1, 1) := by decide +kernel
theorem dX7_odds_20 : decode cX7_odds 20 = .ok (.invokestatic 77, 3) := by decide +kernel
theorem dX7_odds_23 : decode cX7_odds 23 = .ok (.ifCond .ne 7, 3) := by decide +kernel
theorem dX7_odds_26 : decode cX7_odds 26 = .ok (.ldc2_w 75, 3) := by decide +kernel
theorem dX7_odds_29 : decode cX7_odds 29 = .ok (.lreturn, 1) := by decide +kernel
theorem dX7_odds_30 : decode cX7_odds 30 = .ok (.iconst 0, 1) := by decide +kernel
theorem dX7_odds_31 : decode cX7_odds 31 = .ok (.istore 4, 2) := by decide +kernel
theorem dX7_odds_33 : decode cX7_odds 33 = .ok (.iconst 0, 1) := by decide +kernel
theorem dX7_odds_34 : decode cX7_odds 34 = .ok (.istore 5, 2) := by decide +kernel
theorem dX7_odds_36 : decode cX7_odds 36 = .ok (.iload 5, 2) := by decide +kernel
theorem dX7_odds_38 : decode cX7_odds 38 = .ok (.iconst 1, 1) := by decide +kernel
theorem dX7_odds_39 : decode cX7_odds 39 = .ok (.aload_n 0, 1) := by decide +kernel
theorem dX7_odds_40 : decode cX7_odds 40 = .ok (.getfield 84, 3) := by decide +kernel
theorem dX7_odds_43 : decode cX7_odds 43 = .ok (.ishl, 1) := by decide +kernel
theorem dX7_odds_44 : decode cX7_odds 44 = .ok (.if_icmp .ge 77, 3) := by decide +kernel
theorem dX7_odds_47 : decode cX7_odds 47 = .ok (.aload_n 0, 1) := by decide +kernel
theorem dX7_odds_48 : decode cX7_odds 48 = .ok (.invokevirtual 150, 3) := by decide +kernel
theorem dX7_odds_51 : decode cX7_odds 51 = .ok (.iconst 0, 1) := by decide +kernel
theorem dX7_odds_52 : decode cX7_odds 52 = .ok (.istore 6, 2) := by decide +kernel
theorem dX7_odds_54 : decode cX7_odds 54 = .ok (.iload 6, 2) := by decide +kernel
theorem dX7_odds_56 : decode cX7_odds 56 = .ok (.aload_n 0, 1) := by decide +kernel
theorem dX7_odds_57 : decode cX7_odds 57 = .ok (.getfield 84, 3) := by decide +kernel
theorem dX7_odds_60 : decode cX7_odds 60 = .ok (.if_icmp .ge 31, 3) := by decide +kernel
theorem dX7_odds_63 : decode cX7_odds 63 = .ok (.aload_n 0, 1) := by decide +kernel
theorem dX7_odds_64 : decode cX7_odds 64 = .ok (.iload 6, 2) := by decide +kernel
theorem dX7_odds_66 : decode cX7_odds 66 = .ok (.iload 5, 2) := by decide +kernel
theorem dX7_odds_68 : decode cX7_odds 68 = .ok (.iload 6, 2) := by decide +kernel
theorem dX7_odds_70 : decode cX7_odds 70 = .ok (.ishr, 1) := by decide +kernel
theorem dX7_odds_71 : decode cX7_odds 71 = .ok (.iconst 1, 1) := by decide +kernel
theorem dX7_odds_72 : decode cX7_odds 72 = .ok (.iand, 1) := by decide +kernel
theorem dX7_odds_73 : decode cX7_odds 73 = .ok (.iconst 1, 1) := by decide +kernel
theorem dX7_odds_74 : decode cX7_odds 74 = .ok (.if_icmp .ne 7, 3) := by decide +kernel
theorem dX7_odds_77 : decode cX7_odds 77 = .ok (.iconst 1, 1) := by decide +kernel
theorem dX7_odds_78 : decode cX7_odds 78 = .ok (.goto 4, 3) := by decide +kernel
theorem dX7_odds_81 : decode cX7_odds 81 = .ok (.iconst 0, 1) := by decide +kernel
theorem dX7_odds_82 : decode cX7_odds 82 = .ok (.invokevirtual 153, 3) := by decide +kernel
theorem dX7_odds_85 : decode cX7_odds 85 = .ok (.iinc 6 1, 3) := by decide +kernel
theorem dX7_odds_88 : decode cX7_odds 88 = .ok (.goto (-34), 3) := by decide +kernel
theorem dX7_odds_91 : decode cX7_odds 91 = .ok (.iload 4, 2) := by decide +kernel
theorem dX7_odds_93 : decode cX7_odds 93 = .ok (.aload_n 0, 1) := by decide +kernel
theorem dX7_odds_94 : decode cX7_odds 94 = .ok (.aload_n 0, 1) := by decide +kernel
theorem dX7_odds_95 : decode cX7_odds 95 = .ok (.getfield 50, 3) := by decide +kernel
theorem dX7_odds_98 : decode cX7_odds 98 = .ok (.iload_n 1, 1) := by decide +kernel
theorem dX7_odds_99 : decode cX7_odds 99 = .ok (.iaload, 1) := by decide +kernel
theorem dX7_odds_100 : decode cX7_odds 100 = .ok (.invokevirtual 165, 3) := by decide +kernel
theorem dX7_odds_103 : decode cX7_odds 103 = .ok (.iload_n 2, 1) := by decide +kernel
theorem dX7_odds_104 : decode cX7_odds 104 = .ok (.if_icmp .ne 7, 3) := by decide +kernel
theorem dX7_odds_107 : decode cX7_odds 107 = .ok (.iconst 1, 1) := by decide +kernel
theorem dX7_odds_108 : decode cX7_odds 108 = .ok (.goto 4, 3) := by decide +kernel
theorem dX7_odds_111 : decode cX7_odds 111 = .ok (.iconst 0, 1) := by decide +kernel
theorem dX7_odds_112 : decode cX7_odds 112 = .ok (.iadd, 1) := by decide +kernel
theorem dX7_odds_113 : decode cX7_odds 113 = .ok (.istore 4, 2) := by decide +kernel
theorem dX7_odds_115 : decode cX7_odds 115 = .ok (.iinc 5 1, 3) := by decide +kernel
theorem dX7_odds_118 : decode cX7_odds 118 = .ok (.goto (-82), 3) := by decide +kernel
theorem dX7_odds_121 : decode cX7_odds 121 = .ok (.iload 4, 2) := by decide +kernel
theorem dX7_odds_123 : decode cX7_odds 123 = .ok (.i2l, 1) := by decide +kernel
theorem dX7_odds_124 : decode cX7_odds 124 = .ok (.lconst 1, 1) := by decide +kernel
theorem dX7_odds_125 : decode cX7_odds 125 = .ok (.aload_n 0, 1) := by decide +kernel
theorem dX7_odds_126 : decode cX7_odds 126 = .ok (.getfield 84, 3) := by decide +kernel
theorem dX7_odds_129 : decode cX7_odds 129 = .ok (.lshl, 1) := by decide +kernel
theorem dX7_odds_130 : decode cX7_odds 130 = .ok (.iload_n 3, 1) := by decide +kernel
theorem dX7_odds_131 : decode cX7_odds 131 = .ok (.invokestatic 221, 3) := by decide +kernel
theorem dX7_odds_134 : decode cX7_odds 134 = .ok (.lreturn, 1) := by decide +kernel
theorem dX7_sheet_0 : decode cX7_sheet 0 = .ok (.aload_n 0, 1) := by decide +kernel
theorem dX7_sheet_1 : decode cX7_sheet 1 = .ok (.iconst 0, 1) := by decide +kernel
theorem dX7_sheet_2 : decode cX7_sheet 2 = .ok (.putfield 71, 3) := by decide +kernel
theorem dX7_sheet_5 : decode cX7_sheet 5 = .ok (.iload_n 1, 1) := by decide +kernel
theorem dX7_sheet_6 : decode cX7_sheet 6 = .ok (.invokestatic 90, 3) := by decide +kernel
theorem dX7_sheet_9 : decode cX7_sheet 9 = .ok (.ifCond .ne 5, 3) := by decide +kernel
theorem dX7_sheet_12 : decode cX7_sheet 12 = .ok (.iconst (-1), 1) := by decide +kernel
theorem dX7_sheet_13 : decode cX7_sheet 13 = .ok (.ireturn, 1) := by decide +kernel
theorem dX7_sheet_14 : decode cX7_sheet 14 = .ok (.iload_n 2, 1) := by decide +kernel
theorem dX7_sheet_15 : decode cX7_sheet 15 = .ok (.invokestatic 94, 3) := by decide +kernel
theorem dX7_sheet_18 : decode cX7_sheet 18 = .ok (.ifCond .eq 9, 3) := by decide +kernel
theorem dX7_sheet_21 : decode cX7_sheet 21 = .ok (.iload_n 3, 1) := by decide +kernel
theorem dX7_sheet_22 : decode cX7_sheet 22 = .ok (.bipush 60, 2) := by decide +kernel
theorem dX7_sheet_24 : decode cX7_sheet 24 = .ok (.if_icmp .le 6, 3) := by decide +kernel
theorem dX7_sheet_27 : decode cX7_sheet 27 = .ok (.bipush (-2), 2) := by decide +kernel
theorem dX7_sheet_29 : decode cX7_sheet 29 = .ok (.ireturn, 1) := by decide +kernel
theorem dX7_sheet_30 : decode cX7_sheet 30 = .ok (.iload_n 3, 1) := by decide +kernel
theorem dX7_sheet_31 : decode cX7_sheet 31 = .ok (.ifCond .ge 9, 3) := by decide +kernel
theorem dX7_sheet_34 : decode cX7_sheet 34 = .ok (.aload_n 0, 1) := by decide +kernel
theorem dX7_sheet_35 : decode cX7_sheet 35 = .ok (.iconst 4, 1) := by decide +kernel
theorem dX7_sheet_36 : decode cX7_sheet 36 = .ok (.invokevirtual 101, 3) := by decide +kernel
theorem dX7_sheet_39 : decode cX7_sheet 39 = .ok (.ireturn, 1) := by decide +kernel
theorem dX7_sheet_40 : decode cX7_sheet 40 = .ok (.aload_n 0, 1) := by decide +kernel
theorem dX7_sheet_41 : decode cX7_sheet 41 = .ok (.getfield 9, 3) := by decide +kernel
theorem dX7_sheet_44 : decode cX7_sheet 44 = .ok (.iload_n 1, 1) := by decide +kernel
theorem dX7_sheet_45 : decode cX7_sheet 45 = .ok (.iload_n 2, 1) := by decide +kernel
theorem dX7_sheet_46 : decode cX7_sheet 46 = .ok (.iastore, 1) := by decide +kernel
theorem dX7_sheet_47 : decode cX7_sheet 47 = .ok (.aload_n 0, 1) := by decide +kernel
theorem dX7_sheet_48 : decode cX7_sheet 48 = .ok (.getfield 13, 3) := by decide +kernel
theorem dX7_sheet_51 : decode cX7_sheet 51 = .ok (.iload_n 1, 1) := by decide +kernel
theorem dX7_sheet_52 : decode cX7_sheet 52 = .ok (.iload_n 3, 1) := by decide +kernel
theorem dX7_sheet_53 : decode cX7_sheet 53 = .ok (.iastore, 1) := by decide +kernel
theorem dX7_sheet_54 : decode cX7_sheet 54 = .ok (.iconst 0, 1) := by decide +kernel
theorem dX7_sheet_55 : decode cX7_sheet 55 = .ok (.istore 4, 2) := by decide +kernel
theorem dX7_sheet_57 : decode cX7_sheet 57 = .ok (.iload 4, 2) := by decide +kernel
theorem dX7_sheet_59 : decode cX7_sheet 59 = .ok (.bipush 60, 2) := by decide +kernel
theorem dX7_sheet_61 : decode cX7_sheet 61 = .ok (.if_icmp .ge 22, 3) := by decide +kernel
theorem dX7_sheet_64 : decode cX7_sheet 64 = .ok (.aload_n 0, 1) := by decide +kernel
theorem dX7_sheet_65 : decode cX7_sheet 65 = .ok (.getfield 16, 3) := by decide +kernel
theorem dX7_sheet_68 : decode cX7_sheet 68 = .ok (.bipush 60, 2) := by decide +kernel
theorem dX7_sheet_70 : decode cX7_sheet 70 = .ok (.iload_n 1, 1) := by decide +kernel
theorem dX7_sheet_71 : decode cX7_sheet 71 = .ok (.imul, 1) := by decide +kernel
theorem dX7_sheet_72 : decode cX7_sheet 72 = .ok (.iload 4, 2) := by decide +kernel
theorem dX7_sheet_74 : decode cX7_sheet 74 = .ok (.iadd, 1) := by decide +kernel
theorem dX7_sheet_75 : decode cX7_sheet 75 = .ok (.iconst 0, 1) := by decide +kernel
theorem dX7_sheet_76 : decode cX7_sheet 76 = .ok (.iastore, 1) := by decide +kernel
theorem dX7_sheet_77 : decode cX7_sheet 77 = .ok (.iinc 4 1, 3) := by decide +kernel
theorem dX7_sheet_80 : decode cX7_sheet 80 = .ok (.goto (-23), 3) := by decide +kernel
theorem dX7_sheet_83 : decode cX7_sheet 83 = .ok (.iconst 1, 1) := by decide +kernel
theorem dX7_sheet_84 : decode cX7_sheet 84 = .ok (.ireturn, 1) := by decide +kernel
theorem dX7_lose_0 : decode cX7_lose 0 = .ok (.iload_n 1, 1) := by decide +kernel
theorem dX7_lose_1 : decode cX7_lose 1 = .ok (.invokestatic 90, 3) := by decide +kernel
theorem dX7_lose_4 : decode cX7_lose 4 = .ok (.ifCond .ne 5, 3) := by decide +kernel
theorem dX7_lose_7 : decode cX7_lose 7 = .ok (.iconst (-1), 1) := by decide +kernel
theorem dX7_lose_8 : decode cX7_lose 8 = .ok (.ireturn, 1) := by decide +kernel
theorem dX7_lose_9 : decode cX7_lose 9 = .ok (.aload_n 0, 1) := by decide +kernel
theorem dX7_lose_10 : decode cX7_lose 10 = .ok (.getfield 9, 3) := by decide +kernel
theorem dX7_lose_13 : decode cX7_lose 13 = .ok (.iload_n 1, 1) := by decide +kernel
theorem dX7_lose_14 : decode cX7_lose 14 = .ok (.iaload, 1) := by decide +kernel
theorem dX7_lose_15 : decode cX7_lose 15 = .ok (.bipush (-9), 2) := by decide +kernel
theorem dX7_lose_17 : decode cX7_lose 17 = .ok (.if_icmp .ne 7, 3) := by decide +kernel
theorem dX7_lose_20 : decode cX7_lose 20 = .ok (.iconst 0, 1) := by decide +kernel
theorem dX7_lose_21 : decode cX7_lose 21 = .ok (.goto 4, 3) := by decide +kernel
theorem dX7_lose_24 : decode cX7_lose 24 = .ok (.iconst 1, 1) := by decide +kernel
theorem dX7_lose_25 : decode cX7_lose 25 = .ok (.istore_n 2, 1) := by decide +kernel
theorem dX7_lose_26 : decode cX7_lose 26 = .ok (.aload_n 0, 1) := by decide +kernel
theorem dX7_lose_27 : decode cX7_lose 27 = .ok (.getfield 9, 3) := by decide +kernel
theorem dX7_lose_30 : decode cX7_lose 30 = .ok (.iload_n 1, 1) := by decide +kernel
theorem dX7_lose_31 : decode cX7_lose 31 = .ok (.bipush (-9), 2) := by decide +kernel
theorem dX7_lose_33 : decode cX7_lose 33 = .ok (.iastore, 1) := by decide +kernel
theorem dX7_lose_34 : decode cX7_lose 34 = .ok (.iload_n 2, 1) := by decide +kernel
theorem dX7_lose_35 : decode cX7_lose 35 = .ok (.ireturn, 1) := by decide +kernel
theorem dX7_put_0 : decode cX7_put 0 = .ok (.aload_n 0, 1) := by decide +kernel
theorem dX7_put_1 : decode cX7_put 1 = .ok (.iconst 0, 1) := by decide +kernel
theorem dX7_put_2 : decode cX7_put 2 = .ok (.putfield 71, 3) := by decide +kernel
theorem dX7_put_5 : decode cX7_put 5 = .ok (.iload_n 1, 1) := by decide +kernel
theorem dX7_put_6 : decode cX7_put 6 = .ok (.invokestatic 90, 3) := by decide +kernel
theorem dX7_put_9 : decode cX7_put 9 = .ok (.ifCond .ne 5, 3) := by decide +kernel
theorem dX7_put_12 : decode cX7_put 12 = .ok (.iconst (-1), 1) := by decide +kernel
theorem dX7_put_13 : decode cX7_put 13 = .ok (.ireturn, 1) := by decide +kernel
theorem dX7_put_14 : decode cX7_put 14 = .ok (.aload_n 0, 1) := by decide +kernel
theorem dX7_put_15 : decode cX7_put 15 = .ok (.getfield 9, 3) := by decide +kernel
theorem dX7_put_18 : decode cX7_put 18 = .ok (.iload_n 1, 1) := by decide +kernel
theorem dX7_put_19 : decode cX7_put 19 = .ok (.iaload, 1) := by decide +kernel
theorem dX7_put_20 : decode cX7_put 20 = .ok (.bipush (-9), 2) := by decide +kernel
theorem dX7_put_22 : decode cX7_put 22 = .ok (.if_icmp .ne 9, 3) := by decide +kernel
theorem dX7_put_25 : decode cX7_put 25 = .ok (.aload_n 0, 1) := by decide +kernel
theorem dX7_put_26 : decode cX7_put 26 = .ok (.iconst 1, 1) := by decide +kernel
theorem dX7_put_27 : decode cX7_put 27 = .ok (.invokevirtual 101, 3) := by decide +kernel
theorem dX7_put_30 : decode cX7_put 30 = .ok (.ireturn, 1) := by decide +kernel
theorem dX7_put_31 : decode cX7_put 31 = .ok (.iload_n 2, 1) := by decide +kernel
theorem dX7_put_32 : decode cX7_put 32 = .ok (.iconst 0, 1) := by decide +kernel
theorem dX7_put_33 : decode cX7_put 33 = .ok (.aload_n 0, 1) := by decide +kernel
theorem dX7_put_34 : decode cX7_put 34 = .ok (.getfield 13, 3) := by decide +kernel
theorem dX7_put_37 : decode cX7_put 37 = .ok (.iload_n 1, 1) := by decide +kernel
theorem dX7_put_38 : decode cX7_put 38 = .ok (.iaload, 1) := by decide +kernel
theorem dX7_put_39 : decode cX7_put 39 = .ok (.iconst 1, 1) := by decide +kernel
theorem dX7_put_40 : decode cX7_put 40 = .ok (.isub, 1) := by decide +kernel
theorem dX7_put_41 : decode cX7_put 41 = .ok (.invokestatic 77, 3) := by decide +kernel
theorem dX7_put_44 : decode cX7_put 44 = .ok (.ifCond .ne 9, 3) := by decide +kernel
theorem dX7_put_47 : decode cX7_put 47 = .ok (.aload_n 0, 1) := by decide +kernel
theorem dX7_put_48 : decode cX7_put 48 = .ok (.iconst 3, 1) := by decide +kernel
theorem dX7_put_49 : decode cX7_put 49 = .ok (.invokevirtual 101, 3) := by decide +kernel
theorem dX7_put_52 : decode cX7_put 52 = .ok (.ireturn, 1) := by decide +kernel
theorem dX7_put_53 : decode cX7_put 53 = .ok (.aload_n 0, 1) := by decide +kernel
theorem dX7_put_54 : decode cX7_put 54 = .ok (.getfield 16, 3) := by decide +kernel
theorem dX7_put_57 : decode cX7_put 57 = .ok (.bipush 60, 2) := by decide +kernel
theorem dX7_put_59 : decode cX7_put 59 = .ok (.iload_n 1, 1) := by decide +kernel
theorem dX7_put_60 : decode cX7_put 60 = .ok (.imul, 1) := by decide +kernel
theorem dX7_put_61 : decode cX7_put 61 = .ok (.iload_n 2, 1) := by decide +kernel
theorem dX7_put_62 : decode cX7_put 62 = .ok (.iadd, 1) := by decide +kernel
theorem dX7_put_63 : decode cX7_put 63 = .ok (.aload_n 0, 1) := by decide +kernel
theorem dX7_put_64 : decode cX7_put 64 = .ok (.getfield 9, 3) := by decide +kernel
theorem dX7_put_67 : decode cX7_put 67 = .ok (.iload_n 1, 1) := by decide +kernel
theorem dX7_put_68 : decode cX7_put 68 = .ok (.iaload, 1) := by decide +kernel
theorem dX7_put_69 : decode cX7_put 69 = .ok (.ifCond .ne 8, 3) := by decide +kernel
theorem dX7_put_72 : decode cX7_put 72 = .ok (.iload_n 3, 1) := by decide +kernel
theorem dX7_put_73 : decode cX7_put 73 = .ok (.i2b, 1) := by decide +kernel
theorem dX7_put_74 : decode cX7_put 74 = .ok (.goto 19, 3) := by decide +kernel
theorem dX7_put_77 : decode cX7_put 77 = .ok (.aload_n 0, 1) := by decide +kernel
theorem dX7_put_78 : decode cX7_put 78 = .ok (.getfield 9, 3) := by decide +kernel
theorem dX7_put_81 : decode cX7_put 81 = .ok (.iload_n 1, 1) := by decide +kernel
theorem dX7_put_82 : decode cX7_put 82 = .ok (.iaload, 1) := by decide +kernel
theorem dX7_put_83 : decode cX7_put 83 = .ok (.iconst 1, 1) := by decide +kernel
theorem dX7_put_84 : decode cX7_put 84 = .ok (.if_icmp .ne 8, 3) := by decide +kernel
theorem dX7_put_87 : decode cX7_put 87 = .ok (.iload_n 3, 1) := by decide +kernel
theorem dX7_put_88 : decode cX7_put 88 = .ok (.i2s, 1) := by decide +kernel
theorem dX7_put_89 : decode cX7_put 89 = .ok (.goto 4, 3) := by decide +kernel
theorem dX7_put_92 : decode cX7_put 92 = .ok (.iload_n 3, 1) := by decide +kernel
theorem dX7_put_93 : decode cX7_put 93 = .ok (.iastore, 1) := by decide +kernel
theorem dX7_put_94 : decode cX7_put 94 = .ok (.iconst 1, 1) := by decide +kernel
theorem dX7_put_95 : decode cX7_put 95 = .ok (.ireturn, 1) := by decide +kernel
theorem dX7_cell_0 : decode cX7_cell 0 = .ok (.aload_n 0, 1) := by decide +kernel
theorem dX7_cell_1 : decode cX7_cell 1 = .ok (.iconst 0, 1) := by decide +kernel
theorem dX7_cell_2 : decode cX7_cell 2 = .ok (.putfield 71, 3) := by decide +kernel
theorem dX7_cell_5 : decode cX7_cell 5 = .ok (.iload_n 1, 1) := by decide +kernel
theorem dX7_cell_6 : decode cX7_cell 6 = .ok (.invokestatic 90, 3) := by decide +kernel
theorem dX7_cell_9 : decode cX7_cell 9 = .ok (.ifCond .eq 10, 3) := by decide +kernel
theorem dX7_cell_12 : decode cX7_cell 12 = .ok (.iload_n 3, 1) := by decide +kernel
theorem dX7_cell_13 : decode cX7_cell 13 = .ok (.invokestatic 94, 3) := by decide +kernel
theorem dX7_cell_16 : decode cX7_cell 16 = .ok (.ifCond .ne 7, 3) := by decide +kernel
theorem dX7_cell_19 : decode cX7_cell 19 = .ok (.ldc2_w 75, 3) := by decide +kernel
theorem dX7_cell_22 : decode cX7_cell 22 = .ok (.lreturn, 1) := by decide +kernel
theorem dX7_cell_23 : decode cX7_cell 23 = .ok (.aload_n 0, 1) := by decide +kernel
theorem dX7_cell_24 : decode cX7_cell 24 = .ok (.getfield 9, 3) := by decide +kernel
theorem dX7_cell_27 : decode cX7_cell 27 = .ok (.iload_n 1, 1) := by decide +kernel
theorem dX7_cell_28 : decode cX7_cell 28 = .ok (.iaload, 1) := by decide +kernel
theorem dX7_cell_29 : decode cX7_cell 29 = .ok (.bipush (-9), 2) := by decide +kernel
theorem dX7_cell_31 : decode cX7_cell 31 = .ok (.if_icmp .eq 19, 3) := by decide +kernel
theorem dX7_cell_34 : decode cX7_cell 34 = .ok (.aload_n 0, 1) := by decide +kernel
theorem dX7_cell_35 : decode cX7_cell 35 = .ok (.getfield 9, 3) := by decide +kernel
theorem dX7_cell_38 : decode cX7_cell 38 = .ok (.iload_n 1, 1) := by decide +kernel
theorem dX7_cell_39 : decode cX7_cell 39 = .ok (.iaload, 1) := by decide +kernel
theorem dX7_cell_40 : decode cX7_cell 40 = .ok (.iload_n 3, 1) := by decide +kernel
theorem dX7_cell_41 : decode cX7_cell 41 = .ok (.if_icmp .eq 9, 3) := by decide +kernel
theorem dX7_cell_44 : decode cX7_cell 44 = .ok (.aload_n 0, 1) := by decide +kernel
theorem dX7_cell_45 : decode cX7_cell 45 = .ok (.iconst 2, 1) := by decide +kernel
theorem dX7_cell_46 : decode cX7_cell 46 = .ok (.invokevirtual 225, 3) := by decide +kernel
theorem dX7_cell_49 : decode cX7_cell 49 = .ok (.lreturn, 1) := by decide +kernel
theorem dX7_cell_50 : decode cX7_cell 50 = .ok (.aload_n 0, 1) := by decide +kernel
theorem dX7_cell_51 : decode cX7_cell 51 = .ok (.getfield 9, 3) := by decide +kernel
theorem dX7_cell_54 : decode cX7_cell 54 = .ok (.iload_n 1, 1) := by decide +kernel
theorem dX7_cell_55 : decode cX7_cell 55 = .ok (.iaload, 1) := by decide +kernel
theorem dX7_cell_56 : decode cX7_cell 56 = .ok (.bipush (-9), 2) := by decide +kernel
theorem dX7_cell_58 : decode cX7_cell 58 = .ok (.if_icmp .ne 9, 3) := by decide +kernel
theorem dX7_cell_61 : decode cX7_cell 61 = .ok (.aload_n 0, 1) := by decide +kernel
theorem dX7_cell_62 : decode cX7_cell 62 = .ok (.iconst 1, 1) := by decide +kernel
theorem dX7_cell_63 : decode cX7_cell 63 = .ok (.invokevirtual 225, 3) := by decide +kernel
theorem dX7_cell_66 : decode cX7_cell 66 = .ok (.lreturn, 1) := by decide +kernel
theorem dX7_cell_67 : decode cX7_cell 67 = .ok (.iload_n 2, 1) := by decide +kernel
theorem dX7_cell_68 : decode cX7_cell 68 = .ok (.iconst 0, 1) := by decide +kernel
theorem dX7_cell_69 : decode cX7_cell 69 = .ok (.aload_n 0, 1) := by decide +kernel
theorem dX7_cell_70 : decode cX7_cell 70 = .ok (.getfield 13, 3) := by decide +kernel
theorem dX7_cell_73 : decode cX7_cell 73 = .ok (.iload_n 1, 1) := by decide +kernel
theorem dX7_cell_74 : decode cX7_cell 74 = .ok (.iaload, 1) := by decide +kernel
theorem dX7_cell_75 : decode cX7_cell 75 = .ok (.iconst 1, 1) := by decide +kernel
theorem dX7_cell_76 : decode cX7_cell 76 = .ok (.isub, 1) := by decide +kernel
theorem dX7_cell_77 : decode cX7_cell 77 = .ok (.invokestatic 77, 3) := by decide +kernel
theorem dX7_cell_80 : decode cX7_cell 80 = .ok (.ifCond .ne 9, 3) := by decide +kernel
theorem dX7_cell_83 : decode cX7_cell 83 = .ok (.aload_n 0, 1) := by decide +kernel
theorem dX7_cell_84 : decode cX7_cell 84 = .ok (.iconst 3, 1) := by decide +kernel
theorem dX7_cell_85 : decode cX7_cell 85 = .ok (.invokevirtual 225, 3) := by decide +kernel
theorem dX7_cell_88 : decode cX7_cell 88 = .ok (.lreturn, 1) := by decide +kernel
theorem dX7_cell_89 : decode cX7_cell 89 = .ok (.aload_n 0, 1) := by decide +kernel
theorem dX7_cell_90 : decode cX7_cell 90 = .ok (.getfield 16, 3) := by decide +kernel
theorem dX7_cell_93 : decode cX7_cell 93 = .ok (.bipush 60, 2) := by decide +kernel
theorem dX7_cell_95 : decode cX7_cell 95 = .ok (.iload_n 1, 1) := by decide +kernel
theorem dX7_cell_96 : decode cX7_cell 96 = .ok (.imul, 1) := by decide +kernel
theorem dX7_cell_97 : decode cX7_cell 97 = .ok (.iload_n 2, 1) := by decide +kernel
theorem dX7_cell_98 : decode cX7_cell 98 = .ok (.iadd, 1) := by decide +kernel
theorem dX7_cell_99 : decode cX7_cell 99 = .ok (.iaload, 1) := by decide +kernel
theorem dX7_cell_100 : decode cX7_cell 100 = .ok (.i2l, 1) := by decide +kernel
theorem dX7_cell_101 : decode cX7_cell 101 = .ok (.lreturn, 1) := by decide +kernel
theorem dX7_copy_0 : decode cX7_copy 0 = .ok (.aload_n 0, 1) := by decide +kernel
theorem dX7_copy_1 : decode cX7_copy 1 = .ok (.iconst 0, 1) := by decide +kernel
theorem dX7_copy_2 : decode cX7_copy 2 = .ok (.putfield 71, 3) := by decide +kernel
theorem dX7_copy_5 : decode cX7_copy 5 = .ok (.iload_n 1, 1) := by decide +kernel
theorem dX7_copy_6 : decode cX7_copy 6 = .ok (.invokestatic 90, 3) := by decide +kernel
theorem dX7_copy_9 : decode cX7_copy 9 = .ok (.ifCond .eq 10, 3) := by decide +kernel
theorem dX7_copy_12 : decode cX7_copy 12 = .ok (.iload_n 3, 1) := by decide +kernel
theorem dX7_copy_13 : decode cX7_copy 13 = .ok (.invokestatic 90, 3) := by decide +kernel
theorem dX7_copy_16 : decode cX7_copy 16 = .ok (.ifCond .ne 5, 3) := by decide +kernel
theorem dX7_copy_19 : decode cX7_copy 19 = .ok (.iconst (-1), 1) := by decide +kernel
theorem dX7_copy_20 : decode cX7_copy 20 = .ok (.ireturn, 1) := by decide +kernel
theorem dX7_copy_21 : decode cX7_copy 21 = .ok (.aload_n 0, 1) := by decide +kernel
theorem dX7_copy_22 : decode cX7_copy 22 = .ok (.getfield 9, 3) := by decide +kernel
theorem dX7_copy_25 : decode cX7_copy 25 = .ok (.iload_n 1, 1) := by decide +kernel
theorem dX7_copy_26 : decode cX7_copy 26 = .ok (.iaload, 1) := by decide +kernel
theorem dX7_copy_27 : decode cX7_copy 27 = .ok (.bipush (-9), 2) := by decide +kernel
theorem dX7_copy_29 : decode cX7_copy 29 = .ok (.if_icmp .eq 14, 3) := by decide +kernel
theorem dX7_copy_32 : decode cX7_copy 32 = .ok (.aload_n 0, 1) := by decide +kernel
theorem dX7_copy_33 : decode cX7_copy 33 = .ok (.getfield 9, 3) := by decide +kernel
theorem dX7_copy_36 : decode cX7_copy 36 = .ok (.iload_n 3, 1) := by decide +kernel
theorem dX7_copy_37 : decode cX7_copy 37 = .ok (.iaload, 1) := by decide +kernel
theorem dX7_copy_38 : decode cX7_copy 38 = .ok (.bipush (-9), 2) := by decide +kernel
theorem dX7_copy_40 : decode cX7_copy 40 = .ok (.if_icmp .ne 9, 3) := by decide +kernel
theorem dX7_copy_43 : decode cX7_copy 43 = .ok (.aload_n 0, 1) := by decide +kernel
theorem dX7_copy_44 : decode cX7_copy 44 = .ok (.iconst 1, 1) := by decide +kernel
theorem dX7_copy_45 : decode cX7_copy 45 = .ok (.invokevirtual 101, 3) := by decide +kernel
theorem dX7_copy_48 : decode cX7_copy 48 = .ok (.ireturn, 1) := by decide +kernel
theorem dX7_copy_49 : decode cX7_copy 49 = .ok (.aload_n 0, 1) := by decide +kernel
theorem dX7_copy_50 : decode cX7_copy 50 = .ok (.getfield 9, 3) := by decide +kernel
theorem dX7_copy_53 : decode cX7_copy 53 = .ok (.iload_n 1, 1) := by decide +kernel
theorem dX7_copy_54 : decode cX7_copy 54 = .ok (.iaload, 1) := by decide +kernel
theorem dX7_copy_55 : decode cX7_copy 55 = .ok (.aload_n 0, 1) := by decide +kernel
theorem dX7_copy_56 : decode cX7_copy 56 = .ok (.getfield 9, 3) := by decide +kernel
theorem dX7_copy_59 : decode cX7_copy 59 = .ok (.iload_n 3, 1) := by decide +kernel
theorem dX7_copy_60 : decode cX7_copy 60 = .ok (.iaload, 1) := by decide +kernel
theorem dX7_copy_61 : decode cX7_copy 61 = .ok (.if_icmp .eq 9, 3) := by decide +kernel
theorem dX7_copy_64 : decode cX7_copy 64 = .ok (.aload_n 0, 1) := by decide +kernel
theorem dX7_copy_65 : decode cX7_copy 65 = .ok (.iconst 2, 1) := by decide +kernel
theorem dX7_copy_66 : decode cX7_copy 66 = .ok (.invokevirtual 101, 3) := by decide +kernel
theorem dX7_copy_69 : decode cX7_copy 69 = .ok (.ireturn, 1) := by decide +kernel
theorem dX7_copy_70 : decode cX7_copy 70 = .ok (.iload_n 2, 1) := by decide +kernel
theorem dX7_copy_71 : decode cX7_copy 71 = .ok (.ifCond .lt 38, 3) := by decide +kernel
theorem dX7_copy_74 : decode cX7_copy 74 = .ok (.iload 4, 2) := by decide +kernel
theorem dX7_copy_76 : decode cX7_copy 76 = .ok (.ifCond .lt 33, 3) := by decide +kernel
theorem dX7_copy_79 : decode cX7_copy 79 = .ok (.iload 5, 2) := by decide +kernel
theorem dX7_copy_81 : decode cX7_copy 81 = .ok (.ifCond .lt 28, 3) := by decide +kernel
theorem dX7_copy_84 : decode cX7_copy 84 = .ok (.iload_n 2, 1) := by decide +kernel
theorem dX7_copy_85 : decode cX7_copy 85 = .ok (.aload_n 0, 1) := by decide +kernel
theorem dX7_copy_86 : decode cX7_copy 86 = .ok (.getfield 13, 3) := by decide +kernel
theorem dX7_copy_89 : decode cX7_copy 89 = .ok (.iload_n 1, 1) := by decide +kernel
theorem dX7_copy_90 : decode cX7_copy 90 = .ok (.iaload, 1) := by decide +kernel
theorem dX7_copy_91 : decode cX7_copy 91 = .ok (.if_icmp .gt 18, 3) := by decide +kernel
theorem dX7_copy_94 : decode cX7_copy 94 = .ok (.iload 4, 2) := by decide +kernel
theorem dX7_copy_96 : decode cX7_copy 96 = .ok (.aload_n 0, 1) := by decide +kernel
theorem dX7_copy_97 : decode cX7_copy 97 = .ok (.getfield 13, 3) := by decide +kernel
theorem dX7_copy_100 : decode cX7_copy 100 = .ok (.iload_n 3, 1) := by decide +kernel
theorem dX7_copy_101 : decode cX7_copy 101 = .ok (.iaload, 1) := by decide +kernel
theorem dX7_copy_102 : decode cX7_copy 102 = .ok (.if_icmp .gt 7, 3) := by decide +kernel
theorem dX7_copy_105 : decode cX7_copy 105 = .ok (.iconst 1, 1) := by decide +kernel
theorem dX7_copy_106 : decode cX7_copy 106 = .ok (.goto 4, 3) := by decide +kernel
theorem dX7_copy_109 : decode cX7_copy 109 = .ok (.iconst 0, 1) := by decide +kernel
theorem dX7_copy_110 : decode cX7_copy 110 = .ok (.istore 6, 2) := by decide +kernel
theorem dX7_copy_112 : decode cX7_copy 112 = .ok (.iload 6, 2) := by decide +kernel
theorem dX7_copy_114 : decode cX7_copy 114 = .ok (.ifCond .eq 30, 3) := by decide +kernel
theorem dX7_copy_117 : decode cX7_copy 117 = .ok (.iload 5, 2) := by decide +kernel
theorem dX7_copy_119 : decode cX7_copy 119 = .ok (.aload_n 0, 1) := by decide +kernel
theorem dX7_copy_120 : decode cX7_copy 120 = .ok (.getfield 13, 3) := by decide +kernel
theorem dX7_copy_123 : decode cX7_copy 123 = .ok (.iload_n 1, 1) := by decide +kernel
theorem dX7_copy_124 : decode cX7_copy 124 = .ok (.iaload, 1) := by decide +kernel
theorem dX7_copy_125 : decode cX7_copy 125 = .ok (.iload_n 2, 1) := by decide +kernel
theorem dX7_copy_126 : decode cX7_copy 126 = .ok (.isub, 1) := by decide +kernel
theorem dX7_copy_127 : decode cX7_copy 127 = .ok (.if_icmp .gt 17, 3) := by decide +kernel
theorem dX7_copy_130 : decode cX7_copy 130 = .ok (.iload 5, 2) := by decide +kernel
theorem dX7_copy_132 : decode cX7_copy 132 = .ok (.aload_n 0, 1) := by decide +kernel
theorem dX7_copy_133 : decode cX7_copy 133 = .ok (.getfield 13, 3) := by decide +kernel
theorem dX7_copy_136 : decode cX7_copy 136 = .ok (.iload_n 3, 1) := by decide +kernel
theorem dX7_copy_137 : decode cX7_copy 137 = .ok (.iaload, 1) := by decide +kernel
theorem dX7_copy_138 : decode cX7_copy 138 = .ok (.iload 4, 2) := by decide +kernel
theorem dX7_copy_140 : decode cX7_copy 140 = .ok (.isub, 1) := by decide +kernel
theorem dX7_copy_141 : decode cX7_copy 141 = .ok (.if_icmp .le 9, 3) := by decide +kernel
theorem dX7_copy_144 : decode cX7_copy 144 = .ok (.aload_n 0, 1) := by decide +kernel
theorem dX7_copy_145 : decode cX7_copy 145 = .ok (.iconst 3, 1) := by decide +kernel
theorem dX7_copy_146 : decode cX7_copy 146 = .ok (.invokevirtual 101, 3) := by decide +kernel
theorem dX7_copy_149 : decode cX7_copy 149 = .ok (.ireturn, 1) := by decide +kernel
theorem dX7_copy_150 : decode cX7_copy 150 = .ok (.iload_n 2, 1) := by decide +kernel
theorem dX7_copy_151 : decode cX7_copy 151 = .ok (.iload 4, 2) := by decide +kernel
theorem dX7_copy_153 : decode cX7_copy 153 = .ok (.if_icmp .ge 7, 3) := by decide +kernel
theorem dX7_copy_156 : decode cX7_copy 156 = .ok (.iconst 1, 1) := by decide +kernel
theorem dX7_copy_157 : decode cX7_copy 157 = .ok (.goto 4, 3) := by decide +kernel
theorem dX7_copy_160 : decode cX7_copy 160 = .ok (.iconst 0, 1) := by decide +kernel
theorem dX7_copy_161 : decode cX7_copy 161 = .ok (.istore 7, 2) := by decide +kernel
theorem dX7_copy_163 : decode cX7_copy 163 = .ok (.iconst 0, 1) := by decide +kernel
theorem dX7_copy_164 : decode cX7_copy 164 = .ok (.istore 8, 2) := by decide +kernel
theorem dX7_copy_166 : decode cX7_copy 166 = .ok (.iload 8, 2) := by decide +kernel
theorem dX7_copy_168 : decode cX7_copy 168 = .ok (.iload 5, 2) := by decide +kernel
theorem dX7_copy_170 : decode cX7_copy 170 = .ok (.if_icmp .ge 57, 3) := by decide +kernel
theorem dX7_copy_173 : decode cX7_copy 173 = .ok (.iload 7, 2) := by decide +kernel
theorem dX7_copy_175 : decode cX7_copy 175 = .ok (.ifCond .eq 13, 3) := by decide +kernel
theorem dX7_copy_178 : decode cX7_copy 178 = .ok (.iload 5, 2) := by decide +kernel
theorem dX7_copy_180 : decode cX7_copy 180 = .ok (.iconst 1, 1) := by decide +kernel
theorem dX7_copy_181 : decode cX7_copy 181 = .ok (.isub, 1) := by decide +kernel
theorem dX7_copy_182 : decode cX7_copy 182 = .ok (.iload 8, 2) := by decide +kernel
theorem dX7_copy_184 : decode cX7_copy 184 = .ok (.isub, 1) := by decide +kernel
theorem dX7_copy_185 : decode cX7_copy 185 = .ok (.goto 5, 3) := by decide +kernel
theorem dX7_copy_188 : decode cX7_copy 188 = .ok (.iload 8, 2) := by decide +kernel
theorem dX7_copy_190 : decode cX7_copy 190 = .ok (.istore 9, 2) := by decide +kernel
theorem dX7_copy_192 : decode cX7_copy 192 = .ok (.aload_n 0, 1) := by decide +kernel
theorem dX7_copy_193 : decode cX7_copy 193 = .ok (.getfield 16, 3) := by decide +kernel
theorem dX7_copy_196 : decode cX7_copy 196 = .ok (.bipush 60, 2) := by decide +kernel
theorem dX7_copy_198 : decode cX7_copy 198 = .ok (.iload_n 3, 1) := by decide +kernel
theorem dX7_copy_199 : decode cX7_copy 199 = .ok (.imul, 1) := by decide +kernel
theorem dX7_copy_200 : decode cX7_copy 200 = .ok (.iload 4, 2) := by decide +kernel
theorem dX7_copy_202 : decode cX7_copy 202 = .ok (.iadd, 1) := by decide +kernel
theorem dX7_copy_203 : decode cX7_copy 203 = .ok (.iload 9, 2) := by decide +kernel
theorem dX7_copy_205 : decode cX7_copy 205 = .ok (.iadd, 1) := by decide +kernel
theorem dX7_copy_206 : decode cX7_copy 206 = .ok (.aload_n 0, 1) := by decide +kernel
theorem dX7_copy_207 : decode cX7_copy 207 = .ok (.getfield 16, 3) := by decide +kernel
theorem dX7_copy_210 : decode cX7_copy 210 = .ok (.bipush 60, 2) := by decide +kernel
theorem dX7_copy_212 : decode cX7_copy 212 = .ok (.iload_n 1, 1) := by decide +kernel
theorem dX7_copy_213 : decode cX7_copy 213 = .ok (.imul, 1) := by decide +kernel
theorem dX7_copy_214 : decode cX7_copy 214 = .ok (.iload_n 2, 1) := by decide +kernel
theorem dX7_copy_215 : decode cX7_copy 215 = .ok (.iadd, 1) := by decide +kernel
theorem dX7_copy_216 : decode cX7_copy 216 = .ok (.iload 9, 2) := by decide +kernel
theorem dX7_copy_218 : decode cX7_copy 218 = .ok (.iadd, 1) := by decide +kernel
theorem dX7_copy_219 : decode cX7_copy 219 = .ok (.iaload, 1) := by decide +kernel
theorem dX7_copy_220 : decode cX7_copy 220 = .ok (.iastore, 1) := by decide +kernel
theorem dX7_copy_221 : decode cX7_copy 221 = .ok (.iinc 8 1, 3) := by decide +kernel
theorem dX7_copy_224 : decode cX7_copy 224 = .ok (.goto (-58), 3) := by decide +kernel
theorem dX7_copy_227 : decode cX7_copy 227 = .ok (.iload 5, 2) := by decide +kernel
theorem dX7_copy_229 : decode cX7_copy 229 = .ok (.ireturn, 1) := by decide +kernel
theorem dX7_begins_0 : decode cX7_begins 0 = .ok (.aload_n 0, 1) := by decide +kernel
theorem dX7_begins_1 : decode cX7_begins 1 = .ok (.bipush 31, 2) := by decide +kernel
theorem dX7_begins_3 : decode cX7_begins 3 = .ok (.aload_n 0, 1) := by decide +kernel
theorem dX7_begins_4 : decode cX7_begins 4 = .ok (.getfield 229, 3) := by decide +kernel
theorem dX7_begins_7 : decode cX7_begins 7 = .ok (.imul, 1) := by decide +kernel
theorem dX7_begins_8 : decode cX7_begins 8 = .ok (.iload_n 1, 1) := by decide +kernel
theorem dX7_begins_9 : decode cX7_begins 9 = .ok (.iadd, 1) := by decide +kernel
theorem dX7_begins_10 : decode cX7_begins 10 = .ok (.putfield 229, 3) := by decide +kernel
theorem dX7_begins_13 : decode cX7_begins 13 = .ok (.return_, 1) := by decide +kernel
theorem dX7_tell_0 : decode cX7_tell 0 = .ok (.aload_n 0, 1) := by decide +kernel
theorem dX7_tell_1 : decode cX7_tell 1 = .ok (.iload_n 1, 1) := by decide +kernel
theorem dX7_tell_2 : decode cX7_tell 2 = .ok (.invokevirtual 137, 3) := by decide +kernel
theorem dX7_tell_5 : decode cX7_tell 5 = .ok (.ifCond .ne 5, 3) := by decide +kernel
theorem dX7_tell_8 : decode cX7_tell 8 = .ok (.iconst (-1), 1) := by decide +kernel
theorem dX7_tell_9 : decode cX7_tell 9 = .ok (.ireturn, 1) := by decide +kernel
theorem dX7_tell_10 : decode cX7_tell 10 = .ok (.aload_n 0, 1) := by decide +kernel
theorem dX7_tell_11 : decode cX7_tell 11 = .ok (.getfield 38, 3) := by decide +kernel
theorem dX7_tell_14 : decode cX7_tell 14 = .ok (.iload_n 1, 1) := by decide +kernel
theorem dX7_tell_15 : decode cX7_tell 15 = .ok (.iaload, 1) := by decide +kernel
theorem dX7_tell_16 : decode cX7_tell 16 = .ok (.istore_n 2, 1) := by decide +kernel
theorem dX7_tell_17 : decode cX7_tell 17 = .ok (.aload_n 0, 1) := by decide +kernel
theorem dX7_tell_18 : decode cX7_tell 18 = .ok (.getfield 32, 3) := by decide +kernel
theorem dX7_tell_21 : decode cX7_tell 21 = .ok (.iload_n 1, 1) := by decide +kernel
theorem dX7_tell_22 : decode cX7_tell 22 = .ok (.iaload, 1) := by decide +kernel
theorem dX7_tell_23 : decode cX7_tell 23 = .ok (.lookupswitch 67 #[(1, 25), (2, 40)], 25) := by decide +kernel
theorem dX7_tell_48 : decode cX7_tell 48 = .ok (.aload_n 0, 1) := by decide +kernel
theorem dX7_tell_49 : decode cX7_tell 49 = .ok (.iconst 2, 1) := by decide +kernel
theorem dX7_tell_50 : decode cX7_tell 50 = .ok (.invokevirtual 232, 3) := by decide +kernel
theorem dX7_tell_53 : decode cX7_tell 53 = .ok (.aload_n 0, 1) := by decide +kernel
theorem dX7_tell_54 : decode cX7_tell 54 = .ok (.iconst 1, 1) := by decide +kernel
theorem dX7_tell_55 : decode cX7_tell 55 = .ok (.invokevirtual 232, 3) := by decide +kernel
theorem dX7_tell_58 : decode cX7_tell 58 = .ok (.iload_n 2, 1) := by decide +kernel
theorem dX7_tell_59 : decode cX7_tell 59 = .ok (.bipush 100, 2) := by decide +kernel
theorem dX7_tell_61 : decode cX7_tell 61 = .ok (.iadd, 1) := by decide +kernel
theorem dX7_tell_62 : decode cX7_tell 62 = .ok (.ireturn, 1) := by decide +kernel
theorem dX7_tell_63 : decode cX7_tell 63 = .ok (.aload_n 0, 1) := by decide +kernel
theorem dX7_tell_64 : decode cX7_tell 64 = .ok (.iconst 3, 1) := by decide +kernel
theorem dX7_tell_65 : decode cX7_tell 65 = .ok (.invokevirtual 232, 3) := by decide +kernel
theorem dX7_tell_68 : decode cX7_tell 68 = .ok (.aload_n 0, 1) := by decide +kernel
theorem dX7_tell_69 : decode cX7_tell 69 = .ok (.iconst 2, 1) := by decide +kernel
theorem dX7_tell_70 : decode cX7_tell 70 = .ok (.invokevirtual 232, 3) := by decide +kernel
theorem dX7_tell_73 : decode cX7_tell 73 = .ok (.aload_n 0, 1) := by decide +kernel
theorem dX7_tell_74 : decode cX7_tell 74 = .ok (.iconst 1, 1) := by decide +kernel
theorem dX7_tell_75 : decode cX7_tell 75 = .ok (.invokevirtual 232, 3) := by decide +kernel
theorem dX7_tell_78 : decode cX7_tell 78 = .ok (.aload_n 0, 1) := by decide +kernel
theorem dX7_tell_79 : decode cX7_tell 79 = .ok (.iconst 1, 1) := by decide +kernel
theorem dX7_tell_80 : decode cX7_tell 80 = .ok (.invokevirtual 232, 3) := by decide +kernel
theorem dX7_tell_83 : decode cX7_tell 83 = .ok (.iconst 2, 1) := by decide +kernel
theorem dX7_tell_84 : decode cX7_tell 84 = .ok (.iload_n 2, 1) := by decide +kernel
theorem dX7_tell_85 : decode cX7_tell 85 = .ok (.imul, 1) := by decide +kernel
theorem dX7_tell_86 : decode cX7_tell 86 = .ok (.bipush 100, 2) := by decide +kernel
theorem dX7_tell_88 : decode cX7_tell 88 = .ok (.iadd, 1) := by decide +kernel
theorem dX7_tell_89 : decode cX7_tell 89 = .ok (.ireturn, 1) := by decide +kernel
theorem dX7_tell_90 : decode cX7_tell 90 = .ok (.aload_n 0, 1) := by decide +kernel
theorem dX7_tell_91 : decode cX7_tell 91 = .ok (.iconst 1, 1) := by decide +kernel
theorem dX7_tell_92 : decode cX7_tell 92 = .ok (.invokevirtual 232, 3) := by decide +kernel
theorem dX7_tell_95 : decode cX7_tell 95 = .ok (.iload_n 2, 1) := by decide +kernel
theorem dX7_tell_96 : decode cX7_tell 96 = .ok (.ireturn, 1) := by decide +kernel
theorem dX7_call_0 : decode cX7_call 0 = .ok (.aload_n 0, 1) := by decide +kernel
theorem dX7_call_1 : decode cX7_call 1 = .ok (.iload_n 1, 1) := by decide +kernel
theorem dX7_call_2 : decode cX7_call 2 = .ok (.invokevirtual 137, 3) := by decide +kernel
theorem dX7_call_5 : decode cX7_call 5 = .ok (.ifCond .ne 5, 3) := by decide +kernel
theorem dX7_call_8 : decode cX7_call 8 = .ok (.iconst (-1), 1) := by decide +kernel
theorem dX7_call_9 : decode cX7_call 9 = .ok (.ireturn, 1) := by decide +kernel
theorem dX7_call_10 : decode cX7_call 10 = .ok (.aload_n 0, 1) := by decide +kernel
theorem dX7_call_11 : decode cX7_call 11 = .ok (.aload_n 0, 1) := by decide +kernel
theorem dX7_call_12 : decode cX7_call 12 = .ok (.getfield 32, 3) := by decide +kernel
theorem dX7_call_15 : decode cX7_call 15 = .ok (.iload_n 1, 1) := by decide +kernel
theorem dX7_call_16 : decode cX7_call 16 = .ok (.iaload, 1) := by decide +kernel
theorem dX7_call_17 : decode cX7_call 17 = .ok (.iconst 2, 1) := by decide +kernel
theorem dX7_call_18 : decode cX7_call 18 = .ok (.if_icmp .ne 7, 3) := by decide +kernel
theorem dX7_call_21 : decode cX7_call 21 = .ok (.iconst 5, 1) := by decide +kernel
theorem dX7_call_22 : decode cX7_call 22 = .ok (.goto 4, 3) := by decide +kernel
theorem dX7_call_25 : decode cX7_call 25 = .ok (.iconst 4, 1) := by decide +kernel
theorem dX7_call_26 : decode cX7_call 26 = .ok (.invokevirtual 232, 3) := by decide +kernel
theorem dX7_call_29 : decode cX7_call 29 = .ok (.aload_n 0, 1) := by decide +kernel
theorem dX7_call_30 : decode cX7_call 30 = .ok (.getfield 32, 3) := by decide +kernel
theorem dX7_call_33 : decode cX7_call 33 = .ok (.iload_n 1, 1) := by decide +kernel
theorem dX7_call_34 : decode cX7_call 34 = .ok (.iaload, 1) := by decide +kernel
theorem dX7_call_35 : decode cX7_call 35 = .ok (.iconst 2, 1) := by decide +kernel
theorem dX7_call_36 : decode cX7_call 36 = .ok (.if_icmp .ne 8, 3) := by decide +kernel
theorem dX7_call_39 : decode cX7_call 39 = .ok (.bipush 60, 2) := by decide +kernel
theorem dX7_call_41 : decode cX7_call 41 = .ok (.goto 4, 3) := by decide +kernel
theorem dX7_call_44 : decode cX7_call 44 = .ok (.iload_n 1, 1) := by decide +kernel
theorem dX7_call_45 : decode cX7_call 45 = .ok (.ireturn, 1) := by decide +kernel
theorem dX7_as_0 : decode cX7_as 0 = .ok (.aload_n 0, 1) := by decide +kernel
theorem dX7_as_1 : decode cX7_as 1 = .ok (.iconst 0, 1) := by decide +kernel
theorem dX7_as_2 : decode cX7_as 2 = .ok (.putfield 71, 3) := by decide +kernel
theorem dX7_as_5 : decode cX7_as 5 = .ok (.aload_n 0, 1) := by decide +kernel
theorem dX7_as_6 : decode cX7_as 6 = .ok (.iload_n 1, 1) := by decide +kernel
theorem dX7_as_7 : decode cX7_as 7 = .ok (.invokevirtual 137, 3) := by decide +kernel
theorem dX7_as_10 : decode cX7_as 10 = .ok (.ifCond .ne 5, 3) := by decide +kernel
theorem dX7_as_13 : decode cX7_as 13 = .ok (.iconst (-1), 1) := by decide +kernel
theorem dX7_as_14 : decode cX7_as 14 = .ok (.ireturn, 1) := by decide +kernel
theorem dX7_as_15 : decode cX7_as 15 = .ok (.iload_n 2, 1) := by decide +kernel
theorem dX7_as_16 : decode cX7_as 16 = .ok (.iconst 0, 1) := by decide +kernel
theorem dX7_as_17 : decode cX7_as 17 = .ok (.iconst 2, 1) := by decide +kernel
theorem dX7_as_18 : decode cX7_as 18 = .ok (.invokestatic 77, 3) := by decide +kernel
theorem dX7_as_21 : decode cX7_as 21 = .ok (.ifCond .ne 6, 3) := by decide +kernel
theorem dX7_as_24 : decode cX7_as 24 = .ok (.bipush (-2), 2) := by decide +kernel
theorem dX7_as_26 : decode cX7_as 26 = .ok (.ireturn, 1) := by decide +kernel
theorem dX7_as_27 : decode cX7_as 27 = .ok (.aload_n 0, 1) := by decide +kernel
theorem dX7_as_28 : decode cX7_as 28 = .ok (.getfield 32, 3) := by decide +kernel
theorem dX7_as_31 : decode cX7_as 31 = .ok (.iload_n 1, 1) := by decide +kernel
theorem dX7_as_32 : decode cX7_as 32 = .ok (.iaload, 1) := by decide +kernel
theorem dX7_as_33 : decode cX7_as 33 = .ok (.iload_n 2, 1) := by decide +kernel
theorem dX7_as_34 : decode cX7_as 34 = .ok (.if_icmp .lt 7, 3) := by decide +kernel
theorem dX7_as_37 : decode cX7_as 37 = .ok (.iconst 1, 1) := by decide +kernel
theorem dX7_as_38 : decode cX7_as 38 = .ok (.goto 8, 3) := by decide +kernel
theorem dX7_as_41 : decode cX7_as 41 = .ok (.aload_n 0, 1) := by decide +kernel
theorem dX7_as_42 : decode cX7_as 42 = .ok (.iconst 2, 1) := by decide +kernel
theorem dX7_as_43 : decode cX7_as 43 = .ok (.invokevirtual 101, 3) := by decide +kernel
theorem dX7_as_46 : decode cX7_as 46 = .ok (.ireturn, 1) := by decide +kernel
theorem dX7_trace_0 : decode cX7_trace 0 = .ok (.aload_n 0, 1) := by decide +kernel
theorem dX7_trace_1 : decode cX7_trace 1 = .ok (.getfield 229, 3) := by decide +kernel
theorem dX7_trace_4 : decode cX7_trace 4 = .ok (.ireturn, 1) := by decide +kernel
theorem dX7_fault_0 : decode cX7_fault 0 = .ok (.aload_n 0, 1) := by decide +kernel
theorem dX7_fault_1 : decode cX7_fault 1 = .ok (.getfield 71, 3) := by decide +kernel
theorem dX7_fault_4 : decode cX7_fault 4 = .ok (.ireturn, 1) := by decide +kernel
theorem dX7_many_0 : decode cX7_many 0 = .ok (.iload_n 1, 1) := by decide +kernel
theorem dX7_many_1 : decode cX7_many 1 = .ok (.ifCond .ne 10, 3) := by decide +kernel
theorem dX7_many_4 : decode cX7_many 4 = .ok (.aload_n 0, 1) := by decide +kernel
theorem dX7_many_5 : decode cX7_many 5 = .ok (.getfield 81, 3) := by decide +kernel
theorem dX7_many_8 : decode cX7_many 8 = .ok (.goto 29, 3) := by decide +kernel
theorem dX7_many_11 : decode cX7_many 11 = .ok (.iload_n 1, 1) := by decide +kernel
theorem dX7_many_12 : decode cX7_many 12 = .ok (.iconst 1, 1) := by decide +kernel
theorem dX7_many_13 : decode cX7_many 13 = .ok (.if_icmp .ne 10, 3) := by decide +kernel
theorem dX7_many_16 : decode cX7_many 16 = .ok (.aload_n 0, 1) := by decide +kernel
theorem dX7_many_17 : decode cX7_many 17 = .ok (.getfield 84, 3) := by decide +kernel
theorem dX7_many_20 : decode cX7_many 20 = .ok (.goto 17, 3) := by decide +kernel
theorem dX7_many_23 : decode cX7_many 23 = .ok (.iload_n 1, 1) := by decide +kernel
theorem dX7_many_24 : decode cX7_many 24 = .ok (.iconst 2, 1) := by decide +kernel
theorem dX7_many_25 : decode cX7_many 25 = .ok (.if_icmp .ne 10, 3) := by decide +kernel
theorem dX7_many_28 : decode cX7_many 28 = .ok (.aload_n 0, 1) := by decide +kernel
theorem dX7_many_29 : decode cX7_many 29 = .ok (.getfield 123, 3) := by decide +kernel
theorem dX7_many_32 : decode cX7_many 32 = .ok (.goto 5, 3) := by decide +kernel
theorem dX7_many_35 : decode cX7_many 35 = .ok (.bipush (-2), 2) := by decide +kernel
theorem dX7_many_37 : decode cX7_many 37 = .ok (.ireturn, 1) := by decide +kernel
theorem dJ9_max_7cf53_0 : decode cJ9_max_7cf53 0 = .ok (.iload_n 0, 1) := by decide +kernel
theorem dJ9_max_7cf53_1 : decode cJ9_max_7cf53 1 = .ok (.iload_n 1, 1) := by decide +kernel
theorem dJ9_max_7cf53_2 : decode cJ9_max_7cf53 2 = .ok (.if_icmp .lt 7, 3) := by decide +kernel
theorem dJ9_max_7cf53_5 : decode cJ9_max_7cf53 5 = .ok (.iload_n 0, 1) := by decide +kernel
theorem dJ9_max_7cf53_6 : decode cJ9_max_7cf53 6 = .ok (.goto 4, 3) := by decide +kernel
theorem dJ9_max_7cf53_9 : decode cJ9_max_7cf53 9 = .ok (.iload_n 1, 1) := by decide +kernel
theorem dJ9_max_7cf53_10 : decode cJ9_max_7cf53 10 = .ok (.ireturn, 1) := by decide +kernel
theorem dJ9_min_7cf53_0 : decode cJ9_min_7cf53 0 = .ok (.iload_n 0, 1) := by decide +kernel
theorem dJ9_min_7cf53_1 : decode cJ9_min_7cf53 1 = .ok (.iload_n 1, 1) := by decide +kernel
theorem dJ9_min_7cf53_2 : decode cJ9_min_7cf53 2 = .ok (.if_icmp .gt 7, 3) := by decide +kernel
theorem dJ9_min_7cf53_5 : decode cJ9_min_7cf53 5 = .ok (.iload_n 0, 1) := by decide +kernel
theorem dJ9_min_7cf53_6 : decode cJ9_min_7cf53 6 = .ok (.goto 4, 3) := by decide +kernel
theorem dJ9_min_7cf53_9 : decode cJ9_min_7cf53 9 = .ok (.iload_n 1, 1) := by decide +kernel
theorem dJ9_min_7cf53_10 : decode cJ9_min_7cf53 10 = .ok (.ireturn, 1) := by decide +kernel
theorem dJ7_fill_53178_0 : decode cJ7_fill_53178 0 = .ok (.iconst 0, 1) := by decide +kernel
theorem dJ7_fill_53178_1 : decode cJ7_fill_53178 1 = .ok (.istore_n 2, 1) := by decide +kernel
theorem dJ7_fill_53178_2 : decode cJ7_fill_53178 2 = .ok (.aload_n 0, 1) := by decide +kernel
theorem dJ7_fill_53178_3 : decode cJ7_fill_53178 3 = .ok (.arraylength, 1) := by decide +kernel
theorem dJ7_fill_53178_4 : decode cJ7_fill_53178 4 = .ok (.istore_n 3, 1) := by decide +kernel
theorem dJ7_fill_53178_5 : decode cJ7_fill_53178 5 = .ok (.iload_n 2, 1) := by decide +kernel
theorem dJ7_fill_53178_6 : decode cJ7_fill_53178 6 = .ok (.iload_n 3, 1) := by decide +kernel
theorem dJ7_fill_53178_7 : decode cJ7_fill_53178 7 = .ok (.if_icmp .ge 13, 3) := by decide +kernel
theorem dJ7_fill_53178_10 : decode cJ7_fill_53178 10 = .ok (.aload_n 0, 1) := by decide +kernel
theorem dJ7_fill_53178_11 : decode cJ7_fill_53178 11 = .ok (.iload_n 2, 1) := by decide +kernel
theorem dJ7_fill_53178_12 : decode cJ7_fill_53178 12 = .ok (.iload_n 1, 1) := by decide +kernel
theorem dJ7_fill_53178_13 : decode cJ7_fill_53178 13 = .ok (.iastore, 1) := by decide +kernel
theorem dJ7_fill_53178_14 : decode cJ7_fill_53178 14 = .ok (.iinc 2 1, 3) := by decide +kernel
theorem dJ7_fill_53178_17 : decode cJ7_fill_53178 17 = .ok (.goto (-12), 3) := by decide +kernel
theorem dJ7_fill_53178_20 : decode cJ7_fill_53178 20 = .ok (.return_, 1) := by decide +kernel
theorem dL_law_0 : decode cL_law 0 = .ok (.new 7, 3) := by decide +kernel
theorem dL_law_3 : decode cL_law 3 = .ok (.dup, 1) := by decide +kernel
theorem dL_law_4 : decode cL_law 4 = .ok (.invokespecial 9, 3) := by decide +kernel
theorem dL_law_7 : decode cL_law 7 = .ok (.astore_n 1, 1) := by decide +kernel
theorem dL_law_8 : decode cL_law 8 = .ok (.new 10, 3) := by decide +kernel
theorem dL_law_11 : decode cL_law 11 = .ok (.dup, 1) := by decide +kernel
theorem dL_law_12 : decode cL_law 12 = .ok (.invokespecial 12, 3) := by decide +kernel
theorem dL_law_15 : decode cL_law 15 = .ok (.astore_n 2, 1) := by decide +kernel
theorem dL_law_16 : decode cL_law 16 = .ok (.iconst 0, 1) := by decide +kernel
theorem dL_law_17 : decode cL_law 17 = .ok (.istore_n 3, 1) := by decide +kernel
theorem dL_law_18 : decode cL_law 18 = .ok (.iload_n 3, 1) := by decide +kernel
theorem dL_law_19 : decode cL_law 19 = .ok (.aload_n 0, 1) := by decide +kernel
theorem dL_law_20 : decode cL_law 20 = .ok (.arraylength, 1) := by decide +kernel
theorem dL_law_21 : decode cL_law 21 = .ok (.bipush 6, 2) := by decide +kernel
theorem dL_law_23 : decode cL_law 23 = .ok (.isub, 1) := by decide +kernel
theorem dL_law_24 : decode cL_law 24 = .ok (.if_icmp .gt 1131, 3) := by decide +kernel
theorem dL_law_27 : decode cL_law 27 = .ok (.aload_n 0, 1) := by decide +kernel
theorem dL_law_28 : decode cL_law 28 = .ok (.iload_n 3, 1) := by decide +kernel
theorem dL_law_29 : decode cL_law 29 = .ok (.iaload, 1) := by decide +kernel
theorem dL_law_30 : decode cL_law 30 = .ok (.bipush 31, 2) := by decide +kernel
theorem dL_law_32 : decode cL_law 32 = .ok (.iand, 1) := by decide +kernel
theorem dL_law_33 : decode cL_law 33 = .ok (.tableswitch 1116 0 28 #[131, 184, 217, 250, 283, 332, 375, 408, 441, 504, 527, 540, 583, 626, 649, 682, 705, 728, 772, 815, 838, 881, 925, 988, 1011, 1034, 1067, 1080, 1093], 131) := by decide +kernel
theorem dL_law_164 : decode cL_law 164 = .ok (.aload_n 1, 1) := by decide +kernel
theorem dL_law_165 : decode cL_law 165 = .ok (.aload_n 0, 1) := by decide +kernel
theorem dL_law_166 : decode cL_law 166 = .ok (.iload_n 3, 1) := by decide +kernel
theorem dL_law_167 : decode cL_law 167 = .ok (.iconst 1, 1) := by decide +kernel
theorem dL_law_168 : decode cL_law 168 = .ok (.iadd, 1) := by decide +kernel
theorem dL_law_169 : decode cL_law 169 = .ok (.iaload, 1) := by decide +kernel
theorem dL_law_170 : decode cL_law 170 = .ok (.aload_n 0, 1) := by decide +kernel
theorem dL_law_171 : decode cL_law 171 = .ok (.iload_n 3, 1) := by decide +kernel
theorem dL_law_172 : decode cL_law 172 = .ok (.iconst 2, 1) := by decide +kernel
theorem dL_law_173 : decode cL_law 173 = .ok (.iadd, 1) := by decide +kernel
theorem dL_law_174 : decode cL_law 174 = .ok (.iaload, 1) := by decide +kernel
theorem dL_law_175 : decode cL_law 175 = .ok (.aload_n 0, 1) := by decide +kernel
theorem dL_law_176 : decode cL_law 176 = .ok (.iload_n 3, 1) := by decide +kernel
theorem dL_law_177 : decode cL_law 177 = .ok (.iconst 3, 1) := by decide +kernel
theorem dL_law_178 : decode cL_law 178 = .ok (.iadd, 1) := by decide +kernel
theorem dL_law_179 : decode cL_law 179 = .ok (.iaload, 1) := by decide +kernel
theorem dL_law_180 : decode cL_law 180 = .ok (.aload_n 0, 1) := by decide +kernel
theorem dL_law_181 : decode cL_law 181 = .ok (.iload_n 3, 1) := by decide +kernel
theorem dL_law_182 : decode cL_law 182 = .ok (.iconst 4, 1) := by decide +kernel
theorem dL_law_183 : decode cL_law 183 = .ok (.iadd, 1) := by decide +kernel
theorem dL_law_184 : decode cL_law 184 = .ok (.iaload, 1) := by decide +kernel
theorem dL_law_185 : decode cL_law 185 = .ok (.invokevirtual 13, 3) := by decide +kernel
theorem dL_law_188 : decode cL_law 188 = .ok (.aload_n 2, 1) := by decide +kernel
theorem dL_law_189 : decode cL_law 189 = .ok (.aload_n 0, 1) := by decide +kernel
theorem dL_law_190 : decode cL_law 190 = .ok (.iload_n 3, 1) := by decide +kernel
theorem dL_law_191 : decode cL_law 191 = .ok (.iconst 1, 1) := by decide +kernel
theorem dL_law_192 : decode cL_law 192 = .ok (.iadd, 1) := by decide +kernel
theorem dL_law_193 : decode cL_law 193 = .ok (.iaload, 1) := by decide +kernel
theorem dL_law_194 : decode cL_law 194 = .ok (.aload_n 0, 1) := by decide +kernel
theorem dL_law_195 : decode cL_law 195 = .ok (.iload_n 3, 1) := by decide +kernel
theorem dL_law_196 : decode cL_law 196 = .ok (.iconst 2, 1) := by decide +kernel
theorem dL_law_197 : decode cL_law 197 = .ok (.iadd, 1) := by decide +kernel
theorem dL_law_198 : decode cL_law 198 = .ok (.iaload, 1) := by decide +kernel
theorem dL_law_199 : decode cL_law 199 = .ok (.aload_n 0, 1) := by decide +kernel
theorem dL_law_200 : decode cL_law 200 = .ok (.iload_n 3, 1) := by decide +kernel
theorem dL_law_201 : decode cL_law 201 = .ok (.iconst 3, 1) := by decide +kernel
theorem dL_law_202 : decode cL_law 202 = .ok (.iadd, 1) := by decide +kernel
theorem dL_law_203 : decode cL_law 203 = .ok (.iaload, 1) := by decide +kernel
theorem dL_law_204 : decode cL_law 204 = .ok (.aload_n 0, 1) := by decide +kernel
theorem dL_law_205 : decode cL_law 205 = .ok (.iload_n 3, 1) := by decide +kernel
theorem dL_law_206 : decode cL_law 206 = .ok (.iconst 4, 1) := by decide +kernel
theorem dL_law_207 : decode cL_law 207 = .ok (.iadd, 1) := by decide +kernel
theorem dL_law_208 : decode cL_law 208 = .ok (.iaload, 1) := by decide +kernel
theorem dL_law_209 : decode cL_law 209 = .ok (.invokevirtual 17, 3) := by decide +kernel
theorem dL_law_212 : decode cL_law 212 = .ok (.if_icmp .eq 937, 3) := by decide +kernel
theorem dL_law_215 : decode cL_law 215 = .ok (.iconst 0, 1) := by decide +kernel
theorem dL_law_216 : decode cL_law 216 = .ok (.ireturn, 1) := by decide +kernel
theorem dL_law_217 : decode cL_law 217 = .ok (.aload_n 1, 1) := by decide +kernel
theorem dL_law_218 : decode cL_law 218 = .ok (.aload_n 0, 1) := by decide +kernel
theorem dL_law_219 : decode cL_law 219 = .ok (.iload_n 3, 1) := by decide +kernel
theorem dL_law_220 : decode cL_law 220 = .ok (.iconst 1, 1) := by decide +kernel
theorem dL_law_221 : decode cL_law 221 = .ok (.iadd, 1) := by decide +kernel
theorem dL_law_222 : decode cL_law 222 = .ok (.iaload, 1) := by decide +kernel
theorem dL_law_223 : decode cL_law 223 = .ok (.aload_n 0, 1) := by decide +kernel
theorem dL_law_224 : decode cL_law 224 = .ok (.iload_n 3, 1) := by decide +kernel
theorem dL_law_225 : decode cL_law 225 = .ok (.iconst 2, 1) := by decide +kernel
theorem dL_law_226 : decode cL_law 226 = .ok (.iadd, 1) := by decide +kernel
theorem dL_law_227 : decode cL_law 227 = .ok (.iaload, 1) := by decide +kernel
theorem dL_law_228 : decode cL_law 228 = .ok (.invokevirtual 18, 3) := by decide +kernel
theorem dL_law_231 : decode cL_law 231 = .ok (.aload_n 2, 1) := by decide +kernel
theorem dL_law_232 : decode cL_law 232 = .ok (.aload_n 0, 1) := by decide +kernel
theorem dL_law_233 : decode cL_law 233 = .ok (.iload_n 3, 1) := by decide +kernel
theorem dL_law_234 : decode cL_law 234 = .ok (.iconst 1, 1) := by decide +kernel
theorem dL_law_235 : decode cL_law 235 = .ok (.iadd, 1) := by decide +kernel
theorem dL_law_236 : decode cL_law 236 = .ok (.iaload, 1) := by decide +kernel
theorem dL_law_237 : decode cL_law 237 = .ok (.aload_n 0, 1) := by decide +kernel
theorem dL_law_238 : decode cL_law 238 = .ok (.iload_n 3, 1) := by decide +kernel
theorem dL_law_239 : decode cL_law 239 = .ok (.iconst 2, 1) := by decide +kernel
theorem dL_law_240 : decode cL_law 240 = .ok (.iadd, 1) := by decide +kernel
theorem dL_law_241 : decode cL_law 241 = .ok (.iaload, 1) := by decide +kernel
theorem dL_law_242 : decode cL_law 242 = .ok (.invokevirtual 22, 3) := by decide +kernel
theorem dL_law_245 : decode cL_law 245 = .ok (.if_icmp .eq 904, 3) := by decide +kernel
theorem dL_law_248 : decode cL_law 248 = .ok (.iconst 0, 1) := by decide +kernel
theorem dL_law_249 : decode cL_law 249 = .ok (.ireturn, 1) := by decide +kernel
theorem dL_law_250 : decode cL_law 250 = .ok (.aload_n 1, 1) := by decide +kernel
theorem dL_law_251 : decode cL_law 251 = .ok (.aload_n 0, 1) := by decide +kernel
theorem dL_law_252 : decode cL_law 252 = .ok (.iload_n 3, 1) := by decide +kernel
theorem dL_law_253 : decode cL_law 253 = .ok (.iconst 1, 1) := by decide +kernel
theorem dL_law_254 : decode cL_law 254 = .ok (.iadd, 1) := by decide +kernel
theorem dL_law_255 : decode cL_law 255 = .ok (.iaload, 1) := by decide +kernel
theorem dL_law_256 : decode cL_law 256 = .ok (.aload_n 0, 1) := by decide +kernel
theorem dL_law_257 : decode cL_law 257 = .ok (.iload_n 3, 1) := by decide +kernel
theorem dL_law_258 : decode cL_law 258 = .ok (.iconst 2, 1) := by decide +kernel
theorem dL_law_259 : decode cL_law 259 = .ok (.iadd, 1) := by decide +kernel
theorem dL_law_260 : decode cL_law 260 = .ok (.iaload, 1) := by decide +kernel
theorem dL_law_261 : decode cL_law 261 = .ok (.invokevirtual 23, 3) := by decide +kernel
theorem dL_law_264 : decode cL_law 264 = .ok (.aload_n 2, 1) := by decide +kernel
theorem dL_law_265 : decode cL_law 265 = .ok (.aload_n 0, 1) := by decide +kernel
theorem dL_law_266 : decode cL_law 266 = .ok (.iload_n 3, 1) := by decide +kernel
theorem dL_law_267 : decode cL_law 267 = .ok (.iconst 1, 1) := by decide +kernel
theorem dL_law_268 : decode cL_law 268 = .ok (.iadd, 1) := by decide +kernel
theorem dL_law_269 : decode cL_law 269 = .ok (.iaload, 1) := by decide +kernel
theorem dL_law_270 : decode cL_law 270 = .ok (.aload_n 0, 1) := by decide +kernel
theorem dL_law_271 : decode cL_law 271 = .ok (.iload_n 3, 1) := by decide +kernel
theorem dL_law_272 : decode cL_law 272 = .ok (.iconst 2, 1) := by decide +kernel
theorem dL_law_273 : decode cL_law 273 = .ok (.iadd, 1) := by decide +kernel
theorem dL_law_274 : decode cL_law 274 = .ok (.iaload, 1) := by decide +kernel
theorem dL_law_275 : decode cL_law 275 = .ok (.invokevirtual 26, 3) := by decide +kernel
theorem dL_law_278 : decode cL_law 278 = .ok (.if_icmp .eq 871, 3) := by decide +kernel
theorem dL_law_281 : decode cL_law 281 = .ok (.iconst 0, 1) := by decide +kernel
theorem dL_law_282 : decode cL_law 282 = .ok (.ireturn, 1) := by decide +kernel
theorem dL_law_283 : decode cL_law 283 = .ok (.aload_n 1, 1) := by decide +kernel
theorem dL_law_284 : decode cL_law 284 = .ok (.aload_n 0, 1) := by decide +kernel
theorem dL_law_285 : decode cL_law 285 = .ok (.iload_n 3, 1) := by decide +kernel
theorem dL_law_286 : decode cL_law 286 = .ok (.iconst 1, 1) := by decide +kernel
theorem dL_law_287 : decode cL_law 287 = .ok (.iadd, 1) := by decide +kernel
theorem dL_law_288 : decode cL_law 288 = .ok (.iaload, 1) := by decide +kernel
theorem dL_law_289 : decode cL_law 289 = .ok (.aload_n 0, 1) := by decide +kernel
theorem dL_law_290 : decode cL_law 290 = .ok (.iload_n 3, 1) := by decide +kernel
theorem dL_law_291 : decode cL_law 291 = .ok (.iconst 2, 1) := by decide +kernel
theorem dL_law_292 : decode cL_law 292 = .ok (.iadd, 1) := by decide +kernel
theorem dL_law_293 : decode cL_law 293 = .ok (.iaload, 1) := by decide +kernel
theorem dL_law_294 : decode cL_law 294 = .ok (.invokevirtual 27, 3) := by decide +kernel
theorem dL_law_297 : decode cL_law 297 = .ok (.aload_n 2, 1) := by decide +kernel
theorem dL_law_298 : decode cL_law 298 = .ok (.aload_n 0, 1) := by decide +kernel
theorem dL_law_299 : decode cL_law 299 = .ok (.iload_n 3, 1) := by decide +kernel
theorem dL_law_300 : decode cL_law 300 = .ok (.iconst 1, 1) := by decide +kernel
theorem dL_law_301 : decode cL_law 301 = .ok (.iadd, 1) := by decide +kernel
theorem dL_law_302 : decode cL_law 302 = .ok (.iaload, 1) := by decide +kernel
theorem dL_law_303 : decode cL_law 303 = .ok (.aload_n 0, 1) := by decide +kernel
theorem dL_law_304 : decode cL_law 304 = .ok (.iload_n 3, 1) := by decide +kernel
theorem dL_law_305 : decode cL_law 305 = .ok (.iconst 2, 1) := by decide +kernel
theorem dL_law_306 : decode cL_law 306 = .ok (.iadd, 1) := by decide +kernel
theorem dL_law_307 : decode cL_law 307 = .ok (.iaload, 1) := by decide +kernel
theorem dL_law_308 : decode cL_law 308 = .ok (.invokevirtual 30, 3) := by decide +kernel
theorem dL_law_311 : decode cL_law 311 = .ok (.if_icmp .eq 838, 3) := by decide +kernel
theorem dL_law_314 : decode cL_law 314 = .ok (.iconst 0, 1) := by decide +kernel
theorem dL_law_315 : decode cL_law 315 = .ok (.ireturn, 1) := by decide +kernel
theorem dL_law_316 : decode cL_law 316 = .ok (.aload_n 1, 1) := by decide +kernel
theorem dL_law_317 : decode cL_law 317 = .ok (.aload_n 0, 1) := by decide +kernel
theorem dL_law_318 : decode cL_law 318 = .ok (.iload_n 3, 1) := by decide +kernel
theorem dL_law_319 : decode cL_law 319 = .ok (.iconst 1, 1) := by decide +kernel
theorem dL_law_320 : decode cL_law 320 = .ok (.iadd, 1) := by decide +kernel
theorem dL_law_321 : decode cL_law 321 = .ok (.iaload, 1) := by decide +kernel
theorem dL_law_322 : decode cL_law 322 = .ok (.aload_n 0, 1) := by decide +kernel
theorem dL_law_323 : decode cL_law 323 = .ok (.iload_n 3, 1) := by decide +kernel
theorem dL_law_324 : decode cL_law 324 = .ok (.iconst 2, 1) := by decide +kernel
theorem dL_law_325 : decode cL_law 325 = .ok (.iadd, 1) := by decide +kernel
theorem dL_law_326 : decode cL_law 326 = .ok (.iaload, 1) := by decide +kernel
theorem dL_law_327 : decode cL_law 327 = .ok (.ifCond .eq 7, 3) := by decide +kernel
theorem dL_law_330 : decode cL_law 330 = .ok (.iconst 1, 1) := by decide +kernel
theorem dL_law_331 : decode cL_law 331 = .ok (.goto 4, 3) := by decide +kernel
theorem dL_law_334 : decode cL_law 334 = .ok (.iconst 0, 1) := by decide +kernel
theorem dL_law_335 : decode cL_law 335 = .ok (.invokevirtual 31, 3) := by decide +kernel
theorem dL_law_338 : decode cL_law 338 = .ok (.aload_n 2, 1) := by decide +kernel
theorem dL_law_339 : decode cL_law 339 = .ok (.aload_n 0, 1) := by decide +kernel
theorem dL_law_340 : decode cL_law 340 = .ok (.iload_n 3, 1) := by decide +kernel
theorem dL_law_341 : decode cL_law 341 = .ok (.iconst 1, 1) := by decide +kernel
theorem dL_law_342 : decode cL_law 342 = .ok (.iadd, 1) := by decide +kernel
theorem dL_law_343 : decode cL_law 343 = .ok (.iaload, 1) := by decide +kernel
theorem dL_law_344 : decode cL_law 344 = .ok (.aload_n 0, 1) := by decide +kernel
theorem dL_law_345 : decode cL_law 345 = .ok (.iload_n 3, 1) := by decide +kernel
theorem dL_law_346 : decode cL_law 346 = .ok (.iconst 2, 1) := by decide +kernel
theorem dL_law_347 : decode cL_law 347 = .ok (.iadd, 1) := by decide +kernel
theorem dL_law_348 : decode cL_law 348 = .ok (.iaload, 1) := by decide +kernel
theorem dL_law_349 : decode cL_law 349 = .ok (.ifCond .eq 7, 3) := by decide +kernel
theorem dL_law_352 : decode cL_law 352 = .ok (.iconst 1, 1) := by decide +kernel
theorem dL_law_353 : decode cL_law 353 = .ok (.goto 4, 3) := by decide +kernel
theorem dL_law_356 : decode cL_law 356 = .ok (.iconst 0, 1) := by decide +kernel
theorem dL_law_357 : decode cL_law 357 = .ok (.invokevirtual 35, 3) := by decide +kernel
theorem dL_law_360 : decode cL_law 360 = .ok (.if_icmp .eq 789, 3) := by decide +kernel
theorem dL_law_363 : decode cL_law 363 = .ok (.iconst 0, 1) := by decide +kernel
theorem dL_law_364 : decode cL_law 364 = .ok (.ireturn, 1) := by decide +kernel
theorem dL_law_365 : decode cL_law 365 = .ok (.aload_n 1, 1) := by decide +kernel
theorem dL_law_366 : decode cL_law 366 = .ok (.aload_n 0, 1) := by decide +kernel
theorem dL_law_367 : decode cL_law 367 = .ok (.iload_n 3, 1) := by decide +kernel
theorem dL_law_368 : decode cL_law 368 = .ok (.iconst 1, 1) := by decide +kernel
theorem dL_law_369 : decode cL_law 369 = .ok (.iadd, 1) := by decide +kernel
theorem dL_law_370 : decode cL_law 370 = .ok (.iaload, 1) := by decide +kernel
theorem dL_law_371 : decode cL_law 371 = .ok (.aload_n 0, 1) := by decide +kernel
theorem dL_law_372 : decode cL_law 372 = .ok (.iload_n 3, 1) := by decide +kernel
theorem dL_law_373 : decode cL_law 373 = .ok (.iconst 2, 1) := by decide +kernel
theorem dL_law_374 : decode cL_law 374 = .ok (.iadd, 1) := by decide +kernel
theorem dL_law_375 : decode cL_law 375 = .ok (.iaload, 1) := by decide +kernel
theorem dL_law_376 : decode cL_law 376 = .ok (.aload_n 0, 1) := by decide +kernel
theorem dL_law_377 : decode cL_law 377 = .ok (.iload_n 3, 1) := by decide +kernel
theorem dL_law_378 : decode cL_law 378 = .ok (.iconst 3, 1) := by decide +kernel
theorem dL_law_379 : decode cL_law 379 = .ok (.iadd, 1) := by decide +kernel
theorem dL_law_380 : decode cL_law 380 = .ok (.iaload, 1) := by decide +kernel
theorem dL_law_381 : decode cL_law 381 = .ok (.invokevirtual 36, 3) := by decide +kernel
theorem dL_law_384 : decode cL_law 384 = .ok (.aload_n 2, 1) := by decide +kernel
theorem dL_law_385 : decode cL_law 385 = .ok (.aload_n 0, 1) := by decide +kernel
theorem dL_law_386 : decode cL_law 386 = .ok (.iload_n 3, 1) := by decide +kernel
theorem dL_law_387 : decode cL_law 387 = .ok (.iconst 1, 1) := by decide +kernel
theorem dL_law_388 : decode cL_law 388 = .ok (.iadd, 1) := by decide +kernel
theorem dL_law_389 : decode cL_law 389 = .ok (.iaload, 1) := by decide +kernel
theorem dL_law_390 : decode cL_law 390 = .ok (.aload_n 0, 1) := by decide +kernel
theorem dL_law_391 : decode cL_law 391 = .ok (.iload_n 3, 1) := by decide +kernel
theorem dL_law_392 : decode cL_law 392 = .ok (.iconst 2, 1) := by decide +kernel
theorem dL_law_393 : decode cL_law 393 = .ok (.iadd, 1) := by decide +kernel
theorem dL_law_394 : decode cL_law 394 = .ok (.iaload, 1) := by decide +kernel
theorem dL_law_395 : decode cL_law 395 = .ok (.aload_n 0, 1) := by decide +kernel
theorem dL_law_396 : decode cL_law 396 = .ok (.iload_n 3, 1) := by decide +kernel
theorem dL_law_397 : decode cL_law 397 = .ok (.iconst 3, 1) := by decide +kernel
theorem dL_law_398 : decode cL_law 398 = .ok (.iadd, 1) := by decide +kernel
theorem dL_law_399 : decode cL_law 399 = .ok (.iaload, 1) := by decide +kernel
theorem dL_law_400 : decode cL_law 400 = .ok (.invokevirtual 40, 3) := by decide +kernel
theorem dL_law_403 : decode cL_law 403 = .ok (.if_icmp .eq 746, 3) := by decide +kernel
theorem dL_law_406 : decode cL_law 406 = .ok (.iconst 0, 1) := by decide +kernel
theorem dL_law_407 : decode cL_law 407 = .ok (.ireturn, 1) := by decide +kernel
theorem dL_law_408 : decode cL_law 408 = .ok (.aload_n 1, 1) := by decide +kernel
theorem dL_law_409 : decode cL_law 409 = .ok (.aload_n 0, 1) := by decide +kernel
theorem dL_law_410 : decode cL_law 410 = .ok (.iload_n 3, 1) := by decide +kernel
theorem dL_law_411 : decode cL_law 411 = .ok (.iconst 1, 1) := by decide +kernel
theorem dL_law_412 : decode cL_law 412 = .ok (.iadd, 1) := by decide +kernel
theorem dL_law_413 : decode cL_law 413 = .ok (.iaload, 1) := by decide +kernel
theorem dL_law_414 : decode cL_law 414 = .ok (.aload_n 0, 1) := by decide +kernel
theorem dL_law_415 : decode cL_law 415 = .ok (.iload_n 3, 1) := by decide +kernel
theorem dL_law_416 : decode cL_law 416 = .ok (.iconst 2, 1) := by decide +kernel
theorem dL_law_417 : decode cL_law 417 = .ok (.iadd, 1) := by decide +kernel
theorem dL_law_418 : decode cL_law 418 = .ok (.iaload, 1) := by decide +kernel
theorem dL_law_419 : decode cL_law 419 = .ok (.invokevirtual 41, 3) := by decide +kernel
theorem dL_law_422 : decode cL_law 422 = .ok (.aload_n 2, 1) := by decide +kernel
theorem dL_law_423 : decode cL_law 423 = .ok (.aload_n 0, 1) := by decide +kernel
theorem dL_law_424 : decode cL_law 424 = .ok (.iload_n 3, 1) := by decide +kernel
theorem dL_law_425 : decode cL_law 425 = .ok (.iconst 1, 1) := by decide +kernel
theorem dL_law_426 : decode cL_law 426 = .ok (.iadd, 1) := by decide +kernel
theorem dL_law_427 : decode cL_law 427 = .ok (.iaload, 1) := by decide +kernel
theorem dL_law_428 : decode cL_law 428 = .ok (.aload_n 0, 1) := by decide +kernel
theorem dL_law_429 : decode cL_law 429 = .ok (.iload_n 3, 1) := by decide +kernel
theorem dL_law_430 : decode cL_law 430 = .ok (.iconst 2, 1) := by decide +kernel
theorem dL_law_431 : decode cL_law 431 = .ok (.iadd, 1) := by decide +kernel
theorem dL_law_432 : decode cL_law 432 = .ok (.iaload, 1) := by decide +kernel
theorem dL_law_433 : decode cL_law 433 = .ok (.invokevirtual 44, 3) := by decide +kernel
theorem dL_law_436 : decode cL_law 436 = .ok (.if_icmp .eq 713, 3) := by decide +kernel
theorem dL_law_439 : decode cL_law 439 = .ok (.iconst 0, 1) := by decide +kernel
theorem dL_law_440 : decode cL_law 440 = .ok (.ireturn, 1) := by decide +kernel
theorem dL_law_441 : decode cL_law 441 = .ok (.aload_n 1, 1) := by decide +kernel
theorem dL_law_442 : decode cL_law 442 = .ok (.aload_n 0, 1) := by decide +kernel
theorem dL_law_443 : decode cL_law 443 = .ok (.iload_n 3, 1) := by decide +kernel
theorem dL_law_444 : decode cL_law 444 = .ok (.iconst 1, 1) := by decide +kernel
theorem dL_law_445 : decode cL_law 445 = .ok (.iadd, 1) := by decide +kernel
theorem dL_law_446 : decode cL_law 446 = .ok (.iaload, 1) := by decide +kernel
theorem dL_law_447 : decode cL_law 447 = .ok (.aload_n 0, 1) := by decide +kernel
theorem dL_law_448 : decode cL_law 448 = .ok (.iload_n 3, 1) := by decide +kernel
theorem dL_law_449 : decode cL_law 449 = .ok (.iconst 2, 1) := by decide +kernel
theorem dL_law_450 : decode cL_law 450 = .ok (.iadd, 1) := by decide +kernel
theorem dL_law_451 : decode cL_law 451 = .ok (.iaload, 1) := by decide +kernel
theorem dL_law_452 : decode cL_law 452 = .ok (.invokevirtual 45, 3) := by decide +kernel
theorem dL_law_455 : decode cL_law 455 = .ok (.aload_n 2, 1) := by decide +kernel
theorem dL_law_456 : decode cL_law 456 = .ok (.aload_n 0, 1) := by decide +kernel
theorem dL_law_457 : decode cL_law 457 = .ok (.iload_n 3, 1) := by decide +kernel
theorem dL_law_458 : decode cL_law 458 = .ok (.iconst 1, 1) := by decide +kernel
theorem dL_law_459 : decode cL_law 459 = .ok (.iadd, 1) := by decide +kernel
theorem dL_law_460 : decode cL_law 460 = .ok (.iaload, 1) := by decide +kernel
theorem dL_law_461 : decode cL_law 461 = .ok (.aload_n 0, 1) := by decide +kernel
theorem dL_law_462 : decode cL_law 462 = .ok (.iload_n 3, 1) := by decide +kernel
theorem dL_law_463 : decode cL_law 463 = .ok (.iconst 2, 1) := by decide +kernel
theorem dL_law_464 : decode cL_law 464 = .ok (.iadd, 1) := by decide +kernel
theorem dL_law_465 : decode cL_law 465 = .ok (.iaload, 1) := by decide +kernel
theorem dL_law_466 : decode cL_law 466 = .ok (.invokevirtual 48, 3) := by decide +kernel
theorem dL_law_469 : decode cL_law 469 = .ok (.if_icmp .eq 680, 3) := by decide +kernel
theorem dL_law_472 : decode cL_law 472 = .ok (.iconst 0, 1) := by decide +kernel
theorem dL_law_473 : decode cL_law 473 = .ok (.ireturn, 1) := by decide +kernel
theorem dL_law_474 : decode cL_law 474 = .ok (.aload_n 1, 1) := by decide +kernel
theorem dL_law_475 : decode cL_law 475 = .ok (.aload_n 0, 1) := by decide +kernel
theorem dL_law_476 : decode cL_law 476 = .ok (.iload_n 3, 1) := by decide +kernel
theorem dL_law_477 : decode cL_law 477 = .ok (.iconst 1, 1) := by decide +kernel
theorem dL_law_478 : decode cL_law 478 = .ok (.iadd, 1) := by decide +kernel
theorem dL_law_479 : decode cL_law 479 = .ok (.iaload, 1) := by decide +kernel
theorem dL_law_480 : decode cL_law 480 = .ok (.aload_n 0, 1) := by decide +kernel
theorem dL_law_481 : decode cL_law 481 = .ok (.iload_n 3, 1) := by decide +kernel
theorem dL_law_482 : decode cL_law 482 = .ok (.iconst 2, 1) := by decide +kernel
theorem dL_law_483 : decode cL_law 483 = .ok (.iadd, 1) := by decide +kernel
theorem dL_law_484 : decode cL_law 484 = .ok (.iaload, 1) := by decide +kernel
theorem dL_law_485 : decode cL_law 485 = .ok (.aload_n 0, 1) := by decide +kernel
theorem dL_law_486 : decode cL_law 486 = .ok (.iload_n 3, 1) := by decide +kernel
theorem dL_law_487 : decode cL_law 487 = .ok (.iconst 3, 1) := by decide +kernel
theorem dL_law_488 : decode cL_law 488 = .ok (.iadd, 1) := by decide +kernel
theorem dL_law_489 : decode cL_law 489 = .ok (.iaload, 1) := by decide +kernel
theorem dL_law_490 : decode cL_law 490 = .ok (.aload_n 0, 1) := by decide +kernel
theorem dL_law_491 : decode cL_law 491 = .ok (.iload_n 3, 1) := by decide +kernel
theorem dL_law_492 : decode cL_law 492 = .ok (.iconst 4, 1) := by decide +kernel
theorem dL_law_493 : decode cL_law 493 = .ok (.iadd, 1) := by decide +kernel
theorem dL_law_494 : decode cL_law 494 = .ok (.iaload, 1) := by decide +kernel
theorem dL_law_495 : decode cL_law 495 = .ok (.aload_n 0, 1) := by decide +kernel
theorem dL_law_496 : decode cL_law 496 = .ok (.iload_n 3, 1) := by decide +kernel
theorem dL_law_497 : decode cL_law 497 = .ok (.iconst 5, 1) := by decide +kernel
theorem dL_law_498 : decode cL_law 498 = .ok (.iadd, 1) := by decide +kernel
theorem dL_law_499 : decode cL_law 499 = .ok (.iaload, 1) := by decide +kernel
theorem dL_law_500 : decode cL_law 500 = .ok (.invokevirtual 49, 3) := by decide +kernel
theorem dL_law_503 : decode cL_law 503 = .ok (.aload_n 2, 1) := by decide +kernel
theorem dL_law_504 : decode cL_law 504 = .ok (.aload_n 0, 1) := by decide +kernel
theorem dL_law_505 : decode cL_law 505 = .ok (.iload_n 3, 1) := by decide +kernel
theorem dL_law_506 : decode cL_law 506 = .ok (.iconst 1, 1) := by decide +kernel
theorem dL_law_507 : decode cL_law 507 = .ok (.iadd, 1) := by decide +kernel
theorem dL_law_508 : decode cL_law 508 = .ok (.iaload, 1) := by decide +kernel
theorem dL_law_509 : decode cL_law 509 = .ok (.aload_n 0, 1) := by decide +kernel
theorem dL_law_510 : decode cL_law 510 = .ok (.iload_n 3, 1) := by decide +kernel
theorem dL_law_511 : decode cL_law 511 = .ok (.iconst 2, 1) := by decide +kernel
theorem dL_law_512 : decode cL_law 512 = .ok (.iadd, 1) := by decide +kernel
theorem dL_law_513 : decode cL_law 513 = .ok (.iaload, 1) := by decide +kernel
theorem dL_law_514 : decode cL_law 514 = .ok (.aload_n 0, 1) := by decide +kernel
theorem dL_law_515 : decode cL_law 515 = .ok (.iload_n 3, 1) := by decide +kernel
theorem dL_law_516 : decode cL_law 516 = .ok (.iconst 3, 1) := by decide +kernel
theorem dL_law_517 : decode cL_law 517 = .ok (.iadd, 1) := by decide +kernel
theorem dL_law_518 : decode cL_law 518 = .ok (.iaload, 1) := by decide +kernel
theorem dL_law_519 : decode cL_law 519 = .ok (.aload_n 0, 1) := by decide +kernel
theorem dL_law_520 : decode cL_law 520 = .ok (.iload_n 3, 1) := by decide +kernel
theorem dL_law_521 : decode cL_law 521 = .ok (.iconst 4, 1) := by decide +kernel
theorem dL_law_522 : decode cL_law 522 = .ok (.iadd, 1) := by decide +kernel
theorem dL_law_523 : decode cL_law 523 = .ok (.iaload, 1) := by decide +kernel
theorem dL_law_524 : decode cL_law 524 = .ok (.aload_n 0, 1) := by decide +kernel
theorem dL_law_525 : decode cL_law 525 = .ok (.iload_n 3, 1) := by decide +kernel
theorem dL_law_526 : decode cL_law 526 = .ok (.iconst 5, 1) := by decide +kernel
theorem dL_law_527 : decode cL_law 527 = .ok (.iadd, 1) := by decide +kernel
theorem dL_law_528 : decode cL_law 528 = .ok (.iaload, 1) := by decide +kernel
theorem dL_law_529 : decode cL_law 529 = .ok (.invokevirtual 53, 3) := by decide +kernel
theorem dL_law_532 : decode cL_law 532 = .ok (.if_icmp .eq 617, 3) := by decide +kernel
theorem dL_law_535 : decode cL_law 535 = .ok (.iconst 0, 1) := by decide +kernel
theorem dL_law_536 : decode cL_law 536 = .ok (.ireturn, 1) := by decide +kernel
theorem dL_law_537 : decode cL_law 537 = .ok (.aload_n 1, 1) := by decide +kernel
theorem dL_law_538 : decode cL_law 538 = .ok (.aload_n 0, 1) := by decide +kernel
theorem dL_law_539 : decode cL_law 539 = .ok (.iload_n 3, 1) := by decide +kernel
theorem dL_law_540 : decode cL_law 540 = .ok (.iconst 1, 1) := by decide +kernel
theorem dL_law_541 : decode cL_law 541 = .ok (.iadd, 1) := by decide +kernel
theorem dL_law_542 : decode cL_law 542 = .ok (.iaload, 1) := by decide +kernel
theorem dL_law_543 : decode cL_law 543 = .ok (.invokevirtual 54, 3) := by decide +kernel
theorem dL_law_546 : decode cL_law 546 = .ok (.aload_n 2, 1) := by decide +kernel
theorem dL_law_547 : decode cL_law 547 = .ok (.aload_n 0, 1) := by decide +kernel
theorem dL_law_548 : decode cL_law 548 = .ok (.iload_n 3, 1) := by decide +kernel
theorem dL_law_549 : decode cL_law 549 = .ok (.iconst 1, 1) := by decide +kernel
theorem dL_law_550 : decode cL_law 550 = .ok (.iadd, 1) := by decide +kernel
theorem dL_law_551 : decode cL_law 551 = .ok (.iaload, 1) := by decide +kernel
theorem dL_law_552 : decode cL_law 552 = .ok (.invokevirtual 58, 3) := by decide +kernel
theorem dL_law_555 : decode cL_law 555 = .ok (.if_icmp .eq 594, 3) := by decide +kernel
theorem dL_law_558 : decode cL_law 558 = .ok (.iconst 0, 1) := by decide +kernel
theorem dL_law_559 : decode cL_law 559 = .ok (.ireturn, 1) := by decide +kernel
theorem dL_law_560 : decode cL_law 560 = .ok (.aload_n 1, 1) := by decide +kernel
theorem dL_law_561 : decode cL_law 561 = .ok (.invokevirtual 59, 3) := by decide +kernel
theorem dL_law_564 : decode cL_law 564 = .ok (.aload_n 2, 1) := by decide +kernel
theorem dL_law_565 : decode cL_law 565 = .ok (.invokevirtual 63, 3) := by decide +kernel
theorem dL_law_568 : decode cL_law 568 = .ok (.if_icmp .eq 581, 3) := by decide +kernel
theorem dL_law_571 : decode cL_law 571 = .ok (.iconst 0, 1) := by decide +kernel
theorem dL_law_572 : decode cL_law 572 = .ok (.ireturn, 1) := by decide +kernel
theorem dL_law_573 : decode cL_law 573 = .ok (.aload_n 1, 1) := by decide +kernel
theorem dL_law_574 : decode cL_law 574 = .ok (.aload_n 0, 1) := by decide +kernel
theorem dL_law_575 : decode cL_law 575 = .ok (.iload_n 3, 1) := by decide +kernel
theorem dL_law_576 : decode cL_law 576 = .ok (.iconst 1, 1) := by decide +kernel
theorem dL_law_577 : decode cL_law 577 = .ok (.iadd, 1) := by decide +kernel
theorem dL_law_578 : decode cL_law 578 = .ok (.iaload, 1) := by decide +kernel
theorem dL_law_579 : decode cL_law 579 = .ok (.aload_n 0, 1) := by decide +kernel
theorem dL_law_580 : decode cL_law 580 = .ok (.iload_n 3, 1) := by decide +kernel
theorem dL_law_581 : decode cL_law 581 = .ok (.iconst 2, 1) := by decide +kernel
theorem dL_law_582 : decode cL_law 582 = .ok (.iadd, 1) := by decide +kernel
theorem dL_law_583 : decode cL_law 583 = .ok (.iaload, 1) := by decide +kernel
theorem dL_law_584 : decode cL_law 584 = .ok (.aload_n 0, 1) := by decide +kernel
theorem dL_law_585 : decode cL_law 585 = .ok (.iload_n 3, 1) := by decide +kernel
theorem dL_law_586 : decode cL_law 586 = .ok (.iconst 3, 1) := by decide +kernel
theorem dL_law_587 : decode cL_law 587 = .ok (.iadd, 1) := by decide +kernel
theorem dL_law_588 : decode cL_law 588 = .ok (.iaload, 1) := by decide +kernel
theorem dL_law_589 : decode cL_law 589 = .ok (.invokevirtual 64, 3) := by decide +kernel
theorem dL_law_592 : decode cL_law 592 = .ok (.aload_n 2, 1) := by decide +kernel
theorem dL_law_593 : decode cL_law 593 = .ok (.aload_n 0, 1) := by decide +kernel
theorem dL_law_594 : decode cL_law 594 = .ok (.iload_n 3, 1) := by decide +kernel
theorem dL_law_595 : decode cL_law 595 = .ok (.iconst 1, 1) := by decide +kernel
theorem dL_law_596 : decode cL_law 596 = .ok (.iadd, 1) := by decide +kernel
theorem dL_law_597 : decode cL_law 597 = .ok (.iaload, 1) := by decide +kernel
theorem dL_law_598 : decode cL_law 598 = .ok (.aload_n 0, 1) := by decide +kernel
theorem dL_law_599 : decode cL_law 599 = .ok (.iload_n 3, 1) := by decide +kernel
theorem dL_law_600 : decode cL_law 600 = .ok (.iconst 2, 1) := by decide +kernel
theorem dL_law_601 : decode cL_law 601 = .ok (.iadd, 1) := by decide +kernel
theorem dL_law_602 : decode cL_law 602 = .ok (.iaload, 1) := by decide +kernel
theorem dL_law_603 : decode cL_law 603 = .ok (.aload_n 0, 1) := by decide +kernel
theorem dL_law_604 : decode cL_law 604 = .ok (.iload_n 3, 1) := by decide +kernel
theorem dL_law_605 : decode cL_law 605 = .ok (.iconst 3, 1) := by decide +kernel
theorem dL_law_606 : decode cL_law 606 = .ok (.iadd, 1) := by decide +kernel
theorem dL_law_607 : decode cL_law 607 = .ok (.iaload, 1) := by decide +kernel
theorem dL_law_608 : decode cL_law 608 = .ok (.invokevirtual 67, 3) := by decide +kernel
theorem dL_law_611 : decode cL_law 611 = .ok (.if_icmp .eq 538, 3) := by decide +kernel
theorem dL_law_614 : decode cL_law 614 = .ok (.iconst 0, 1) := by decide +kernel
theorem dL_law_615 : decode cL_law 615 = .ok (.ireturn, 1) := by decide +kernel
theorem dL_law_616 : decode cL_law 616 = .ok (.aload_n 1, 1) := by decide +kernel
theorem dL_law_617 : decode cL_law 617 = .ok (.aload_n 0, 1) := by decide +kernel
theorem dL_law_618 : decode cL_law 618 = .ok (.iload_n 3, 1) := by decide +kernel
theorem dL_law_619 : decode cL_law 619 = .ok (.iconst 1, 1) := by decide +kernel
theorem dL_law_620 : decode cL_law 620 = .ok (.iadd, 1) := by decide +kernel
theorem dL_law_621 : decode cL_law 621 = .ok (.iaload, 1) := by decide +kernel
theorem dL_law_622 : decode cL_law 622 = .ok (.aload_n 0, 1) := by decide +kernel
theorem dL_law_623 : decode cL_law 623 = .ok (.iload_n 3, 1) := by decide +kernel
theorem dL_law_624 : decode cL_law 624 = .ok (.iconst 2, 1) := by decide +kernel
theorem dL_law_625 : decode cL_law 625 = .ok (.iadd, 1) := by decide +kernel
theorem dL_law_626 : decode cL_law 626 = .ok (.iaload, 1) := by decide +kernel
theorem dL_law_627 : decode cL_law 627 = .ok (.aload_n 0, 1) := by decide +kernel
theorem dL_law_628 : decode cL_law 628 = .ok (.iload_n 3, 1) := by decide +kernel
theorem dL_law_629 : decode cL_law 629 = .ok (.iconst 3, 1) := by decide +kernel
theorem dL_law_630 : decode cL_law 630 = .ok (.iadd, 1) := by decide +kernel
theorem dL_law_631 : decode cL_law 631 = .ok (.iaload, 1) := by decide +kernel
theorem dL_law_632 : decode cL_law 632 = .ok (.invokevirtual 68, 3) := by decide +kernel
theorem dL_law_635 : decode cL_law 635 = .ok (.aload_n 2, 1) := by decide +kernel
theorem dL_law_636 : decode cL_law 636 = .ok (.aload_n 0, 1) := by decide +kernel
theorem dL_law_637 : decode cL_law 637 = .ok (.iload_n 3, 1) := by decide +kernel
theorem dL_law_638 : decode cL_law 638 = .ok (.iconst 1, 1) := by decide +kernel
theorem dL_law_639 : decode cL_law 639 = .ok (.iadd, 1) := by decide +kernel
theorem dL_law_640 : decode cL_law 640 = .ok (.iaload, 1) := by decide +kernel
theorem dL_law_641 : decode cL_law 641 = .ok (.aload_n 0, 1) := by decide +kernel
theorem dL_law_642 : decode cL_law 642 = .ok (.iload_n 3, 1) := by decide +kernel
theorem dL_law_643 : decode cL_law 643 = .ok (.iconst 2, 1) := by decide +kernel
theorem dL_law_644 : decode cL_law 644 = .ok (.iadd, 1) := by decide +kernel
theorem dL_law_645 : decode cL_law 645 = .ok (.iaload, 1) := by decide +kernel
theorem dL_law_646 : decode cL_law 646 = .ok (.aload_n 0, 1) := by decide +kernel
theorem dL_law_647 : decode cL_law 647 = .ok (.iload_n 3, 1) := by decide +kernel
theorem dL_law_648 : decode cL_law 648 = .ok (.iconst 3, 1) := by decide +kernel
theorem dL_law_649 : decode cL_law 649 = .ok (.iadd, 1) := by decide +kernel
theorem dL_law_650 : decode cL_law 650 = .ok (.iaload, 1) := by decide +kernel
theorem dL_law_651 : decode cL_law 651 = .ok (.invokevirtual 71, 3) := by decide +kernel
theorem dL_law_654 : decode cL_law 654 = .ok (.if_icmp .eq 495, 3) := by decide +kernel
theorem dL_law_657 : decode cL_law 657 = .ok (.iconst 0, 1) := by decide +kernel
theorem dL_law_658 : decode cL_law 658 = .ok (.ireturn, 1) := by decide +kernel
theorem dL_law_659 : decode cL_law 659 = .ok (.aload_n 1, 1) := by decide +kernel
theorem dL_law_660 : decode cL_law 660 = .ok (.aload_n 0, 1) := by decide +kernel
theorem dL_law_661 : decode cL_law 661 = .ok (.iload_n 3, 1) := by decide +kernel
theorem dL_law_662 : decode cL_law 662 = .ok (.iconst 1, 1) := by decide +kernel
theorem dL_law_663 : decode cL_law 663 = .ok (.iadd, 1) := by decide +kernel
theorem dL_law_664 : decode cL_law 664 = .ok (.iaload, 1) := by decide +kernel
theorem dL_law_665 : decode cL_law 665 = .ok (.invokevirtual 72, 3) := by decide +kernel
theorem dL_law_668 : decode cL_law 668 = .ok (.aload_n 2, 1) := by decide +kernel
theorem dL_law_669 : decode cL_law 669 = .ok (.aload_n 0, 1) := by decide +kernel
theorem dL_law_670 : decode cL_law 670 = .ok (.iload_n 3, 1) := by decide +kernel
theorem dL_law_671 : decode cL_law 671 = .ok (.iconst 1, 1) := by decide +kernel
theorem dL_law_672 : decode cL_law 672 = .ok (.iadd, 1) := by decide +kernel
theorem dL_law_673 : decode cL_law 673 = .ok (.iaload, 1) := by decide +kernel
theorem dL_law_674 : decode cL_law 674 = .ok (.invokevirtual 75, 3) := by decide +kernel
theorem dL_law_677 : decode cL_law 677 = .ok (.if_icmp .eq 472, 3) := by decide +kernel
theorem dL_law_680 : decode cL_law 680 = .ok (.iconst 0, 1) := by decide +kernel
theorem dL_law_681 : decode cL_law 681 = .ok (.ireturn, 1) := by decide +kernel
theorem dL_law_682 : decode cL_law 682 = .ok (.aload_n 1, 1) := by decide +kernel
theorem dL_law_683 : decode cL_law 683 = .ok (.aload_n 0, 1) := by decide +kernel
theorem dL_law_684 : decode cL_law 684 = .ok (.iload_n 3, 1) := by decide +kernel
theorem dL_law_685 : decode cL_law 685 = .ok (.iconst 1, 1) := by decide +kernel
theorem dL_law_686 : decode cL_law 686 = .ok (.iadd, 1) := by decide +kernel
theorem dL_law_687 : decode cL_law 687 = .ok (.iaload, 1) := by decide +kernel
theorem dL_law_688 : decode cL_law 688 = .ok (.aload_n 0, 1) := by decide +kernel
theorem dL_law_689 : decode cL_law 689 = .ok (.iload_n 3, 1) := by decide +kernel
theorem dL_law_690 : decode cL_law 690 = .ok (.iconst 2, 1) := by decide +kernel
theorem dL_law_691 : decode cL_law 691 = .ok (.iadd, 1) := by decide +kernel
theorem dL_law_692 : decode cL_law 692 = .ok (.iaload, 1) := by decide +kernel
theorem dL_law_693 : decode cL_law 693 = .ok (.invokevirtual 76, 3) := by decide +kernel
theorem dL_law_696 : decode cL_law 696 = .ok (.aload_n 2, 1) := by decide +kernel
theorem dL_law_697 : decode cL_law 697 = .ok (.aload_n 0, 1) := by decide +kernel
theorem dL_law_698 : decode cL_law 698 = .ok (.iload_n 3, 1) := by decide +kernel
theorem dL_law_699 : decode cL_law 699 = .ok (.iconst 1, 1) := by decide +kernel
theorem dL_law_700 : decode cL_law 700 = .ok (.iadd, 1) := by decide +kernel
theorem dL_law_701 : decode cL_law 701 = .ok (.iaload, 1) := by decide +kernel
theorem dL_law_702 : decode cL_law 702 = .ok (.aload_n 0, 1) := by decide +kernel
theorem dL_law_703 : decode cL_law 703 = .ok (.iload_n 3, 1) := by decide +kernel
theorem dL_law_704 : decode cL_law 704 = .ok (.iconst 2, 1) := by decide +kernel
theorem dL_law_705 : decode cL_law 705 = .ok (.iadd, 1) := by decide +kernel
theorem dL_law_706 : decode cL_law 706 = .ok (.iaload, 1) := by decide +kernel
theorem dL_law_707 : decode cL_law 707 = .ok (.invokevirtual 79, 3) := by decide +kernel
theorem dL_law_710 : decode cL_law 710 = .ok (.if_icmp .eq 439, 3) := by decide +kernel
theorem dL_law_713 : decode cL_law 713 = .ok (.iconst 0, 1) := by decide +kernel
theorem dL_law_714 : decode cL_law 714 = .ok (.ireturn, 1) := by decide +kernel
theorem dL_law_715 : decode cL_law 715 = .ok (.aload_n 1, 1) := by decide +kernel
theorem dL_law_716 : decode cL_law 716 = .ok (.aload_n 0, 1) := by decide +kernel
theorem dL_law_717 : decode cL_law 717 = .ok (.iload_n 3, 1) := by decide +kernel
theorem dL_law_718 : decode cL_law 718 = .ok (.iconst 1, 1) := by decide +kernel
theorem dL_law_719 : decode cL_law 719 = .ok (.iadd, 1) := by decide +kernel
theorem dL_law_720 : decode cL_law 720 = .ok (.iaload, 1) := by decide +kernel
theorem dL_law_721 : decode cL_law 721 = .ok (.invokevirtual 80, 3) := by decide +kernel
theorem dL_law_724 : decode cL_law 724 = .ok (.aload_n 2, 1) := by decide +kernel
theorem dL_law_725 : decode cL_law 725 = .ok (.aload_n 0, 1) := by decide +kernel
theorem dL_law_726 : decode cL_law 726 = .ok (.iload_n 3, 1) := by decide +kernel
theorem dL_law_727 : decode cL_law 727 = .ok (.iconst 1, 1) := by decide +kernel
theorem dL_law_728 : decode cL_law 728 = .ok (.iadd, 1) := by decide +kernel
theorem dL_law_729 : decode cL_law 729 = .ok (.iaload, 1) := by decide +kernel
theorem dL_law_730 : decode cL_law 730 = .ok (.invokevirtual 83, 3) := by decide +kernel
theorem dL_law_733 : decode cL_law 733 = .ok (.if_icmp .eq 416, 3) := by decide +kernel
theorem dL_law_736 : decode cL_law 736 = .ok (.iconst 0, 1) := by decide +kernel
theorem dL_law_737 : decode cL_law 737 = .ok (.ireturn, 1) := by decide +kernel
theorem dL_law_738 : decode cL_law 738 = .ok (.aload_n 1, 1) := by decide +kernel
theorem dL_law_739 : decode cL_law 739 = .ok (.aload_n 0, 1) := by decide +kernel
theorem dL_law_740 : decode cL_law 740 = .ok (.iload_n 3, 1) := by decide +kernel
theorem dL_law_741 : decode cL_law 741 = .ok (.iconst 1, 1) := by decide +kernel
theorem dL_law_742 : decode cL_law 742 = .ok (.iadd, 1) := by decide +kernel
theorem dL_law_743 : decode cL_law 743 = .ok (.iaload, 1) := by decide +kernel
theorem dL_law_744 : decode cL_law 744 = .ok (.invokevirtual 84, 3) := by decide +kernel
theorem dL_law_747 : decode cL_law 747 = .ok (.aload_n 2, 1) := by decide +kernel
theorem dL_law_748 : decode cL_law 748 = .ok (.aload_n 0, 1) := by decide +kernel
theorem dL_law_749 : decode cL_law 749 = .ok (.iload_n 3, 1) := by decide +kernel
theorem dL_law_750 : decode cL_law 750 = .ok (.iconst 1, 1) := by decide +kernel
theorem dL_law_751 : decode cL_law 751 = .ok (.iadd, 1) := by decide +kernel
theorem dL_law_752 : decode cL_law 752 = .ok (.iaload, 1) := by decide +kernel
theorem dL_law_753 : decode cL_law 753 = .ok (.invokevirtual 87, 3) := by decide +kernel
theorem dL_law_756 : decode cL_law 756 = .ok (.if_icmp .eq 393, 3) := by decide +kernel
theorem dL_law_759 : decode cL_law 759 = .ok (.iconst 0, 1) := by decide +kernel
theorem dL_law_760 : decode cL_law 760 = .ok (.ireturn, 1) := by decide +kernel
theorem dL_law_761 : decode cL_law 761 = .ok (.aload_n 1, 1) := by decide +kernel
theorem dL_law_762 : decode cL_law 762 = .ok (.aload_n 0, 1) := by decide +kernel
theorem dL_law_763 : decode cL_law 763 = .ok (.iload_n 3, 1) := by decide +kernel
theorem dL_law_764 : decode cL_law 764 = .ok (.iconst 1, 1) := by decide +kernel
theorem dL_law_765 : decode cL_law 765 = .ok (.iadd, 1) := by decide +kernel
theorem dL_law_766 : decode cL_law 766 = .ok (.iaload, 1) := by decide +kernel
theorem dL_law_767 : decode cL_law 767 = .ok (.aload_n 0, 1) := by decide +kernel
theorem dL_law_768 : decode cL_law 768 = .ok (.iload_n 3, 1) := by decide +kernel
theorem dL_law_769 : decode cL_law 769 = .ok (.iconst 2, 1) := by decide +kernel
theorem dL_law_770 : decode cL_law 770 = .ok (.iadd, 1) := by decide +kernel
theorem dL_law_771 : decode cL_law 771 = .ok (.iaload, 1) := by decide +kernel
theorem dL_law_772 : decode cL_law 772 = .ok (.aload_n 0, 1) := by decide +kernel
theorem dL_law_773 : decode cL_law 773 = .ok (.iload_n 3, 1) := by decide +kernel
theorem dL_law_774 : decode cL_law 774 = .ok (.iconst 3, 1) := by decide +kernel
theorem dL_law_775 : decode cL_law 775 = .ok (.iadd, 1) := by decide +kernel
theorem dL_law_776 : decode cL_law 776 = .ok (.iaload, 1) := by decide +kernel
theorem dL_law_777 : decode cL_law 777 = .ok (.invokevirtual 88, 3) := by decide +kernel
theorem dL_law_780 : decode cL_law 780 = .ok (.aload_n 2, 1) := by decide +kernel
theorem dL_law_781 : decode cL_law 781 = .ok (.aload_n 0, 1) := by decide +kernel
theorem dL_law_782 : decode cL_law 782 = .ok (.iload_n 3, 1) := by decide +kernel
theorem dL_law_783 : decode cL_law 783 = .ok (.iconst 1, 1) := by decide +kernel
theorem dL_law_784 : decode cL_law 784 = .ok (.iadd, 1) := by decide +kernel
theorem dL_law_785 : decode cL_law 785 = .ok (.iaload, 1) := by decide +kernel
theorem dL_law_786 : decode cL_law 786 = .ok (.aload_n 0, 1) := by decide +kernel
theorem dL_law_787 : decode cL_law 787 = .ok (.iload_n 3, 1) := by decide +kernel
theorem dL_law_788 : decode cL_law 788 = .ok (.iconst 2, 1) := by decide +kernel
theorem dL_law_789 : decode cL_law 789 = .ok (.iadd, 1) := by decide +kernel
theorem dL_law_790 : decode cL_law 790 = .ok (.iaload, 1) := by decide +kernel
theorem dL_law_791 : decode cL_law 791 = .ok (.aload_n 0, 1) := by decide +kernel
theorem dL_law_792 : decode cL_law 792 = .ok (.iload_n 3, 1) := by decide +kernel
theorem dL_law_793 : decode cL_law 793 = .ok (.iconst 3, 1) := by decide +kernel
theorem dL_law_794 : decode cL_law 794 = .ok (.iadd, 1) := by decide +kernel
theorem dL_law_795 : decode cL_law 795 = .ok (.iaload, 1) := by decide +kernel
theorem dL_law_796 : decode cL_law 796 = .ok (.invokevirtual 92, 3) := by decide +kernel
theorem dL_law_799 : decode cL_law 799 = .ok (.lcmp, 1) := by decide +kernel
theorem dL_law_800 : decode cL_law 800 = .ok (.ifCond .eq 349, 3) := by decide +kernel
theorem dL_law_803 : decode cL_law 803 = .ok (.iconst 0, 1) := by decide +kernel
theorem dL_law_804 : decode cL_law 804 = .ok (.ireturn, 1) := by decide +kernel
theorem dL_law_805 : decode cL_law 805 = .ok (.aload_n 1, 1) := by decide +kernel
theorem dL_law_806 : decode cL_law 806 = .ok (.aload_n 0, 1) := by decide +kernel
theorem dL_law_807 : decode cL_law 807 = .ok (.iload_n 3, 1) := by decide +kernel
theorem dL_law_808 : decode cL_law 808 = .ok (.iconst 1, 1) := by decide +kernel
theorem dL_law_809 : decode cL_law 809 = .ok (.iadd, 1) := by decide +kernel
theorem dL_law_810 : decode cL_law 810 = .ok (.iaload, 1) := by decide +kernel
theorem dL_law_811 : decode cL_law 811 = .ok (.aload_n 0, 1) := by decide +kernel
theorem dL_law_812 : decode cL_law 812 = .ok (.iload_n 3, 1) := by decide +kernel
theorem dL_law_813 : decode cL_law 813 = .ok (.iconst 2, 1) := by decide +kernel
theorem dL_law_814 : decode cL_law 814 = .ok (.iadd, 1) := by decide +kernel
theorem dL_law_815 : decode cL_law 815 = .ok (.iaload, 1) := by decide +kernel
theorem dL_law_816 : decode cL_law 816 = .ok (.aload_n 0, 1) := by decide +kernel
theorem dL_law_817 : decode cL_law 817 = .ok (.iload_n 3, 1) := by decide +kernel
theorem dL_law_818 : decode cL_law 818 = .ok (.iconst 3, 1) := by decide +kernel
theorem dL_law_819 : decode cL_law 819 = .ok (.iadd, 1) := by decide +kernel
theorem dL_law_820 : decode cL_law 820 = .ok (.iaload, 1) := by decide +kernel
theorem dL_law_821 : decode cL_law 821 = .ok (.invokevirtual 93, 3) := by decide +kernel
theorem dL_law_824 : decode cL_law 824 = .ok (.aload_n 2, 1) := by decide +kernel
theorem dL_law_825 : decode cL_law 825 = .ok (.aload_n 0, 1) := by decide +kernel
theorem dL_law_826 : decode cL_law 826 = .ok (.iload_n 3, 1) := by decide +kernel
theorem dL_law_827 : decode cL_law 827 = .ok (.iconst 1, 1) := by decide +kernel
theorem dL_law_828 : decode cL_law 828 = .ok (.iadd, 1) := by decide +kernel
theorem dL_law_829 : decode cL_law 829 = .ok (.iaload, 1) := by decide +kernel
theorem dL_law_830 : decode cL_law 830 = .ok (.aload_n 0, 1) := by decide +kernel
theorem dL_law_831 : decode cL_law 831 = .ok (.iload_n 3, 1) := by decide +kernel
theorem dL_law_832 : decode cL_law 832 = .ok (.iconst 2, 1) := by decide +kernel
theorem dL_law_833 : decode cL_law 833 = .ok (.iadd, 1) := by decide +kernel
theorem dL_law_834 : decode cL_law 834 = .ok (.iaload, 1) := by decide +kernel
theorem dL_law_835 : decode cL_law 835 = .ok (.aload_n 0, 1) := by decide +kernel
theorem dL_law_836 : decode cL_law 836 = .ok (.iload_n 3, 1) := by decide +kernel
theorem dL_law_837 : decode cL_law 837 = .ok (.iconst 3, 1) := by decide +kernel
theorem dL_law_838 : decode cL_law 838 = .ok (.iadd, 1) := by decide +kernel
theorem dL_law_839 : decode cL_law 839 = .ok (.iaload, 1) := by decide +kernel
theorem dL_law_840 : decode cL_law 840 = .ok (.invokevirtual 96, 3) := by decide +kernel
theorem dL_law_843 : decode cL_law 843 = .ok (.if_icmp .eq 306, 3) := by decide +kernel
theorem dL_law_846 : decode cL_law 846 = .ok (.iconst 0, 1) := by decide +kernel
theorem dL_law_847 : decode cL_law 847 = .ok (.ireturn, 1) := by decide +kernel
theorem dL_law_848 : decode cL_law 848 = .ok (.aload_n 1, 1) := by decide +kernel
theorem dL_law_849 : decode cL_law 849 = .ok (.aload_n 0, 1) := by decide +kernel
theorem dL_law_850 : decode cL_law 850 = .ok (.iload_n 3, 1) := by decide +kernel
theorem dL_law_851 : decode cL_law 851 = .ok (.iconst 1, 1) := by decide +kernel
theorem dL_law_852 : decode cL_law 852 = .ok (.iadd, 1) := by decide +kernel
theorem dL_law_853 : decode cL_law 853 = .ok (.iaload, 1) := by decide +kernel
theorem dL_law_854 : decode cL_law 854 = .ok (.invokevirtual 97, 3) := by decide +kernel
theorem dL_law_857 : decode cL_law 857 = .ok (.aload_n 2, 1) := by decide +kernel
theorem dL_law_858 : decode cL_law 858 = .ok (.aload_n 0, 1) := by decide +kernel
theorem dL_law_859 : decode cL_law 859 = .ok (.iload_n 3, 1) := by decide +kernel
theorem dL_law_860 : decode cL_law 860 = .ok (.iconst 1, 1) := by decide +kernel
theorem dL_law_861 : decode cL_law 861 = .ok (.iadd, 1) := by decide +kernel
theorem dL_law_862 : decode cL_law 862 = .ok (.iaload, 1) := by decide +kernel
theorem dL_law_863 : decode cL_law 863 = .ok (.invokevirtual 100, 3) := by decide +kernel
theorem dL_law_866 : decode cL_law 866 = .ok (.if_icmp .eq 283, 3) := by decide +kernel
theorem dL_law_869 : decode cL_law 869 = .ok (.iconst 0, 1) := by decide +kernel
theorem dL_law_870 : decode cL_law 870 = .ok (.ireturn, 1) := by decide +kernel
theorem dL_law_871 : decode cL_law 871 = .ok (.aload_n 1, 1) := by decide +kernel
theorem dL_law_872 : decode cL_law 872 = .ok (.aload_n 0, 1) := by decide +kernel
theorem dL_law_873 : decode cL_law 873 = .ok (.iload_n 3, 1) := by decide +kernel
theorem dL_law_874 : decode cL_law 874 = .ok (.iconst 1, 1) := by decide +kernel
theorem dL_law_875 : decode cL_law 875 = .ok (.iadd, 1) := by decide +kernel
theorem dL_law_876 : decode cL_law 876 = .ok (.iaload, 1) := by decide +kernel
theorem dL_law_877 : decode cL_law 877 = .ok (.aload_n 0, 1) := by decide +kernel
theorem dL_law_878 : decode cL_law 878 = .ok (.iload_n 3, 1) := by decide +kernel
theorem dL_law_879 : decode cL_law 879 = .ok (.iconst 2, 1) := by decide +kernel
theorem dL_law_880 : decode cL_law 880 = .ok (.iadd, 1) := by decide +kernel
theorem dL_law_881 : decode cL_law 881 = .ok (.iaload, 1) := by decide +kernel
theorem dL_law_882 : decode cL_law 882 = .ok (.aload_n 0, 1) := by decide +kernel
theorem dL_law_883 : decode cL_law 883 = .ok (.iload_n 3, 1) := by decide +kernel
theorem dL_law_884 : decode cL_law 884 = .ok (.iconst 3, 1) := by decide +kernel
theorem dL_law_885 : decode cL_law 885 = .ok (.iadd, 1) := by decide +kernel
theorem dL_law_886 : decode cL_law 886 = .ok (.iaload, 1) := by decide +kernel
theorem dL_law_887 : decode cL_law 887 = .ok (.invokevirtual 101, 3) := by decide +kernel
theorem dL_law_890 : decode cL_law 890 = .ok (.aload_n 2, 1) := by decide +kernel
theorem dL_law_891 : decode cL_law 891 = .ok (.aload_n 0, 1) := by decide +kernel
theorem dL_law_892 : decode cL_law 892 = .ok (.iload_n 3, 1) := by decide +kernel
theorem dL_law_893 : decode cL_law 893 = .ok (.iconst 1, 1) := by decide +kernel
theorem dL_law_894 : decode cL_law 894 = .ok (.iadd, 1) := by decide +kernel
theorem dL_law_895 : decode cL_law 895 = .ok (.iaload, 1) := by decide +kernel
theorem dL_law_896 : decode cL_law 896 = .ok (.aload_n 0, 1) := by decide +kernel
theorem dL_law_897 : decode cL_law 897 = .ok (.iload_n 3, 1) := by decide +kernel
theorem dL_law_898 : decode cL_law 898 = .ok (.iconst 2, 1) := by decide +kernel
theorem dL_law_899 : decode cL_law 899 = .ok (.iadd, 1) := by decide +kernel
theorem dL_law_900 : decode cL_law 900 = .ok (.iaload, 1) := by decide +kernel
theorem dL_law_901 : decode cL_law 901 = .ok (.aload_n 0, 1) := by decide +kernel
theorem dL_law_902 : decode cL_law 902 = .ok (.iload_n 3, 1) := by decide +kernel
theorem dL_law_903 : decode cL_law 903 = .ok (.iconst 3, 1) := by decide +kernel
theorem dL_law_904 : decode cL_law 904 = .ok (.iadd, 1) := by decide +kernel
theorem dL_law_905 : decode cL_law 905 = .ok (.iaload, 1) := by decide +kernel
theorem dL_law_906 : decode cL_law 906 = .ok (.invokevirtual 104, 3) := by decide +kernel
theorem dL_law_909 : decode cL_law 909 = .ok (.if_icmp .eq 240, 3) := by decide +kernel
theorem dL_law_912 : decode cL_law 912 = .ok (.iconst 0, 1) := by decide +kernel
theorem dL_law_913 : decode cL_law 913 = .ok (.ireturn, 1) := by decide +kernel
theorem dL_law_914 : decode cL_law 914 = .ok (.aload_n 1, 1) := by decide +kernel
theorem dL_law_915 : decode cL_law 915 = .ok (.aload_n 0, 1) := by decide +kernel
theorem dL_law_916 : decode cL_law 916 = .ok (.iload_n 3, 1) := by decide +kernel
theorem dL_law_917 : decode cL_law 917 = .ok (.iconst 1, 1) := by decide +kernel
theorem dL_law_918 : decode cL_law 918 = .ok (.iadd, 1) := by decide +kernel
theorem dL_law_919 : decode cL_law 919 = .ok (.iaload, 1) := by decide +kernel
theorem dL_law_920 : decode cL_law 920 = .ok (.aload_n 0, 1) := by decide +kernel
theorem dL_law_921 : decode cL_law 921 = .ok (.iload_n 3, 1) := by decide +kernel
theorem dL_law_922 : decode cL_law 922 = .ok (.iconst 2, 1) := by decide +kernel
theorem dL_law_923 : decode cL_law 923 = .ok (.iadd, 1) := by decide +kernel
theorem dL_law_924 : decode cL_law 924 = .ok (.iaload, 1) := by decide +kernel
theorem dL_law_925 : decode cL_law 925 = .ok (.aload_n 0, 1) := by decide +kernel
theorem dL_law_926 : decode cL_law 926 = .ok (.iload_n 3, 1) := by decide +kernel
theorem dL_law_927 : decode cL_law 927 = .ok (.iconst 3, 1) := by decide +kernel
theorem dL_law_928 : decode cL_law 928 = .ok (.iadd, 1) := by decide +kernel
theorem dL_law_929 : decode cL_law 929 = .ok (.iaload, 1) := by decide +kernel
theorem dL_law_930 : decode cL_law 930 = .ok (.invokevirtual 105, 3) := by decide +kernel
theorem dL_law_933 : decode cL_law 933 = .ok (.aload_n 2, 1) := by decide +kernel
theorem dL_law_934 : decode cL_law 934 = .ok (.aload_n 0, 1) := by decide +kernel
theorem dL_law_935 : decode cL_law 935 = .ok (.iload_n 3, 1) := by decide +kernel
theorem dL_law_936 : decode cL_law 936 = .ok (.iconst 1, 1) := by decide +kernel
theorem dL_law_937 : decode cL_law 937 = .ok (.iadd, 1) := by decide +kernel
theorem dL_law_938 : decode cL_law 938 = .ok (.iaload, 1) := by decide +kernel
theorem dL_law_939 : decode cL_law 939 = .ok (.aload_n 0, 1) := by decide +kernel
theorem dL_law_940 : decode cL_law 940 = .ok (.iload_n 3, 1) := by decide +kernel
theorem dL_law_941 : decode cL_law 941 = .ok (.iconst 2, 1) := by decide +kernel
theorem dL_law_942 : decode cL_law 942 = .ok (.iadd, 1) := by decide +kernel
theorem dL_law_943 : decode cL_law 943 = .ok (.iaload, 1) := by decide +kernel
theorem dL_law_944 : decode cL_law 944 = .ok (.aload_n 0, 1) := by decide +kernel
theorem dL_law_945 : decode cL_law 945 = .ok (.iload_n 3, 1) := by decide +kernel
theorem dL_law_946 : decode cL_law 946 = .ok (.iconst 3, 1) := by decide +kernel
theorem dL_law_947 : decode cL_law 947 = .ok (.iadd, 1) := by decide +kernel
theorem dL_law_948 : decode cL_law 948 = .ok (.iaload, 1) := by decide +kernel
theorem dL_law_949 : decode cL_law 949 = .ok (.invokevirtual 108, 3) := by decide +kernel
theorem dL_law_952 : decode cL_law 952 = .ok (.lcmp, 1) := by decide +kernel
theorem dL_law_953 : decode cL_law 953 = .ok (.ifCond .eq 196, 3) := by decide +kernel
theorem dL_law_956 : decode cL_law 956 = .ok (.iconst 0, 1) := by decide +kernel
theorem dL_law_957 : decode cL_law 957 = .ok (.ireturn, 1) := by decide +kernel
theorem dL_law_958 : decode cL_law 958 = .ok (.aload_n 1, 1) := by decide +kernel
theorem dL_law_959 : decode cL_law 959 = .ok (.aload_n 0, 1) := by decide +kernel
theorem dL_law_960 : decode cL_law 960 = .ok (.iload_n 3, 1) := by decide +kernel
theorem dL_law_961 : decode cL_law 961 = .ok (.iconst 1, 1) := by decide +kernel
theorem dL_law_962 : decode cL_law 962 = .ok (.iadd, 1) := by decide +kernel
theorem dL_law_963 : decode cL_law 963 = .ok (.iaload, 1) := by decide +kernel
theorem dL_law_964 : decode cL_law 964 = .ok (.aload_n 0, 1) := by decide +kernel
theorem dL_law_965 : decode cL_law 965 = .ok (.iload_n 3, 1) := by decide +kernel
theorem dL_law_966 : decode cL_law 966 = .ok (.iconst 2, 1) := by decide +kernel
theorem dL_law_967 : decode cL_law 967 = .ok (.iadd, 1) := by decide +kernel
theorem dL_law_968 : decode cL_law 968 = .ok (.iaload, 1) := by decide +kernel
theorem dL_law_969 : decode cL_law 969 = .ok (.aload_n 0, 1) := by decide +kernel
theorem dL_law_970 : decode cL_law 970 = .ok (.iload_n 3, 1) := by decide +kernel
theorem dL_law_971 : decode cL_law 971 = .ok (.iconst 3, 1) := by decide +kernel
theorem dL_law_972 : decode cL_law 972 = .ok (.iadd, 1) := by decide +kernel
theorem dL_law_973 : decode cL_law 973 = .ok (.iaload, 1) := by decide +kernel
theorem dL_law_974 : decode cL_law 974 = .ok (.aload_n 0, 1) := by decide +kernel
theorem dL_law_975 : decode cL_law 975 = .ok (.iload_n 3, 1) := by decide +kernel
theorem dL_law_976 : decode cL_law 976 = .ok (.iconst 4, 1) := by decide +kernel
theorem dL_law_977 : decode cL_law 977 = .ok (.iadd, 1) := by decide +kernel
theorem dL_law_978 : decode cL_law 978 = .ok (.iaload, 1) := by decide +kernel
theorem dL_law_979 : decode cL_law 979 = .ok (.aload_n 0, 1) := by decide +kernel
theorem dL_law_980 : decode cL_law 980 = .ok (.iload_n 3, 1) := by decide +kernel
theorem dL_law_981 : decode cL_law 981 = .ok (.iconst 5, 1) := by decide +kernel
theorem dL_law_982 : decode cL_law 982 = .ok (.iadd, 1) := by decide +kernel
theorem dL_law_983 : decode cL_law 983 = .ok (.iaload, 1) := by decide +kernel
theorem dL_law_984 : decode cL_law 984 = .ok (.invokevirtual 109, 3) := by decide +kernel
theorem dL_law_987 : decode cL_law 987 = .ok (.aload_n 2, 1) := by decide +kernel
theorem dL_law_988 : decode cL_law 988 = .ok (.aload_n 0, 1) := by decide +kernel
theorem dL_law_989 : decode cL_law 989 = .ok (.iload_n 3, 1) := by decide +kernel
theorem dL_law_990 : decode cL_law 990 = .ok (.iconst 1, 1) := by decide +kernel
theorem dL_law_991 : decode cL_law 991 = .ok (.iadd, 1) := by decide +kernel
theorem dL_law_992 : decode cL_law 992 = .ok (.iaload, 1) := by decide +kernel
theorem dL_law_993 : decode cL_law 993 = .ok (.aload_n 0, 1) := by decide +kernel
theorem dL_law_994 : decode cL_law 994 = .ok (.iload_n 3, 1) := by decide +kernel
theorem dL_law_995 : decode cL_law 995 = .ok (.iconst 2, 1) := by decide +kernel
theorem dL_law_996 : decode cL_law 996 = .ok (.iadd, 1) := by decide +kernel
theorem dL_law_997 : decode cL_law 997 = .ok (.iaload, 1) := by decide +kernel
theorem dL_law_998 : decode cL_law 998 = .ok (.aload_n 0, 1) := by decide +kernel
theorem dL_law_999 : decode cL_law 999 = .ok (.iload_n 3, 1) := by decide +kernel
theorem dL_law_1000 : decode cL_law 1000 = .ok (.iconst 3, 1) := by decide +kernel
theorem dL_law_1001 : decode cL_law 1001 = .ok (.iadd, 1) := by decide +kernel
theorem dL_law_1002 : decode cL_law 1002 = .ok (.iaload, 1) := by decide +kernel
theorem dL_law_1003 : decode cL_law 1003 = .ok (.aload_n 0, 1) := by decide +kernel
theorem dL_law_1004 : decode cL_law 1004 = .ok (.iload_n 3, 1) := by decide +kernel
theorem dL_law_1005 : decode cL_law 1005 = .ok (.iconst 4, 1) := by decide +kernel
theorem dL_law_1006 : decode cL_law 1006 = .ok (.iadd, 1) := by decide +kernel
theorem dL_law_1007 : decode cL_law 1007 = .ok (.iaload, 1) := by decide +kernel
theorem dL_law_1008 : decode cL_law 1008 = .ok (.aload_n 0, 1) := by decide +kernel
theorem dL_law_1009 : decode cL_law 1009 = .ok (.iload_n 3, 1) := by decide +kernel
theorem dL_law_1010 : decode cL_law 1010 = .ok (.iconst 5, 1) := by decide +kernel
theorem dL_law_1011 : decode cL_law 1011 = .ok (.iadd, 1) := by decide +kernel
theorem dL_law_1012 : decode cL_law 1012 = .ok (.iaload, 1) := by decide +kernel
theorem dL_law_1013 : decode cL_law 1013 = .ok (.invokevirtual 112, 3) := by decide +kernel
theorem dL_law_1016 : decode cL_law 1016 = .ok (.if_icmp .eq 133, 3) := by decide +kernel
theorem dL_law_1019 : decode cL_law 1019 = .ok (.iconst 0, 1) := by decide +kernel
theorem dL_law_1020 : decode cL_law 1020 = .ok (.ireturn, 1) := by decide +kernel
theorem dL_law_1021 : decode cL_law 1021 = .ok (.aload_n 1, 1) := by decide +kernel
theorem dL_law_1022 : decode cL_law 1022 = .ok (.aload_n 0, 1) := by decide +kernel
theorem dL_law_1023 : decode cL_law 1023 = .ok (.iload_n 3, 1) := by decide +kernel
theorem dL_law_1024 : decode cL_law 1024 = .ok (.iconst 1, 1) := by decide +kernel
theorem dL_law_1025 : decode cL_law 1025 = .ok (.iadd, 1) := by decide +kernel
theorem dL_law_1026 : decode cL_law 1026 = .ok (.iaload, 1) := by decide +kernel
theorem dL_law_1027 : decode cL_law 1027 = .ok (.invokevirtual 113, 3) := by decide +kernel
theorem dL_law_1030 : decode cL_law 1030 = .ok (.aload_n 2, 1) := by decide +kernel
theorem dL_law_1031 : decode cL_law 1031 = .ok (.aload_n 0, 1) := by decide +kernel
theorem dL_law_1032 : decode cL_law 1032 = .ok (.iload_n 3, 1) := by decide +kernel
theorem dL_law_1033 : decode cL_law 1033 = .ok (.iconst 1, 1) := by decide +kernel
theorem dL_law_1034 : decode cL_law 1034 = .ok (.iadd, 1) := by decide +kernel
theorem dL_law_1035 : decode cL_law 1035 = .ok (.iaload, 1) := by decide +kernel
theorem dL_law_1036 : decode cL_law 1036 = .ok (.invokevirtual 116, 3) := by decide +kernel
theorem dL_law_1039 : decode cL_law 1039 = .ok (.if_icmp .eq 110, 3) := by decide +kernel
theorem dL_law_1042 : decode cL_law 1042 = .ok (.iconst 0, 1) := by decide +kernel
theorem dL_law_1043 : decode cL_law 1043 = .ok (.ireturn, 1) := by decide +kernel
theorem dL_law_1044 : decode cL_law 1044 = .ok (.aload_n 1, 1) := by decide +kernel
theorem dL_law_1045 : decode cL_law 1045 = .ok (.aload_n 0, 1) := by decide +kernel
theorem dL_law_1046 : decode cL_law 1046 = .ok (.iload_n 3, 1) := by decide +kernel
theorem dL_law_1047 : decode cL_law 1047 = .ok (.iconst 1, 1) := by decide +kernel
theorem dL_law_1048 : decode cL_law 1048 = .ok (.iadd, 1) := by decide +kernel
theorem dL_law_1049 : decode cL_law 1049 = .ok (.iaload, 1) := by decide +kernel
theorem dL_law_1050 : decode cL_law 1050 = .ok (.invokevirtual 117, 3) := by decide +kernel
theorem dL_law_1053 : decode cL_law 1053 = .ok (.aload_n 2, 1) := by decide +kernel
theorem dL_law_1054 : decode cL_law 1054 = .ok (.aload_n 0, 1) := by decide +kernel
theorem dL_law_1055 : decode cL_law 1055 = .ok (.iload_n 3, 1) := by decide +kernel
theorem dL_law_1056 : decode cL_law 1056 = .ok (.iconst 1, 1) := by decide +kernel
theorem dL_law_1057 : decode cL_law 1057 = .ok (.iadd, 1) := by decide +kernel
theorem dL_law_1058 : decode cL_law 1058 = .ok (.iaload, 1) := by decide +kernel
theorem dL_law_1059 : decode cL_law 1059 = .ok (.invokevirtual 120, 3) := by decide +kernel
theorem dL_law_1062 : decode cL_law 1062 = .ok (.if_icmp .eq 87, 3) := by decide +kernel
theorem dL_law_1065 : decode cL_law 1065 = .ok (.iconst 0, 1) := by decide +kernel
theorem dL_law_1066 : decode cL_law 1066 = .ok (.ireturn, 1) := by decide +kernel
theorem dL_law_1067 : decode cL_law 1067 = .ok (.aload_n 1, 1) := by decide +kernel
theorem dL_law_1068 : decode cL_law 1068 = .ok (.aload_n 0, 1) := by decide +kernel
theorem dL_law_1069 : decode cL_law 1069 = .ok (.iload_n 3, 1) := by decide +kernel
theorem dL_law_1070 : decode cL_law 1070 = .ok (.iconst 1, 1) := by decide +kernel
theorem dL_law_1071 : decode cL_law 1071 = .ok (.iadd, 1) := by decide +kernel
theorem dL_law_1072 : decode cL_law 1072 = .ok (.iaload, 1) := by decide +kernel
theorem dL_law_1073 : decode cL_law 1073 = .ok (.aload_n 0, 1) := by decide +kernel
theorem dL_law_1074 : decode cL_law 1074 = .ok (.iload_n 3, 1) := by decide +kernel
theorem dL_law_1075 : decode cL_law 1075 = .ok (.iconst 2, 1) := by decide +kernel
theorem dL_law_1076 : decode cL_law 1076 = .ok (.iadd, 1) := by decide +kernel
theorem dL_law_1077 : decode cL_law 1077 = .ok (.iaload, 1) := by decide +kernel
theorem dL_law_1078 : decode cL_law 1078 = .ok (.invokevirtual 121, 3) := by decide +kernel
theorem dL_law_1081 : decode cL_law 1081 = .ok (.aload_n 2, 1) := by decide +kernel
theorem dL_law_1082 : decode cL_law 1082 = .ok (.aload_n 0, 1) := by decide +kernel
theorem dL_law_1083 : decode cL_law 1083 = .ok (.iload_n 3, 1) := by decide +kernel
theorem dL_law_1084 : decode cL_law 1084 = .ok (.iconst 1, 1) := by decide +kernel
theorem dL_law_1085 : decode cL_law 1085 = .ok (.iadd, 1) := by decide +kernel
theorem dL_law_1086 : decode cL_law 1086 = .ok (.iaload, 1) := by decide +kernel
theorem dL_law_1087 : decode cL_law 1087 = .ok (.aload_n 0, 1) := by decide +kernel
theorem dL_law_1088 : decode cL_law 1088 = .ok (.iload_n 3, 1) := by decide +kernel
theorem dL_law_1089 : decode cL_law 1089 = .ok (.iconst 2, 1) := by decide +kernel
theorem dL_law_1090 : decode cL_law 1090 = .ok (.iadd, 1) := by decide +kernel
theorem dL_law_1091 : decode cL_law 1091 = .ok (.iaload, 1) := by decide +kernel
theorem dL_law_1092 : decode cL_law 1092 = .ok (.invokevirtual 124, 3) := by decide +kernel
theorem dL_law_1095 : decode cL_law 1095 = .ok (.if_icmp .eq 54, 3) := by decide +kernel
theorem dL_law_1098 : decode cL_law 1098 = .ok (.iconst 0, 1) := by decide +kernel
theorem dL_law_1099 : decode cL_law 1099 = .ok (.ireturn, 1) := by decide +kernel
theorem dL_law_1100 : decode cL_law 1100 = .ok (.aload_n 1, 1) := by decide +kernel
theorem dL_law_1101 : decode cL_law 1101 = .ok (.invokevirtual 125, 3) := by decide +kernel
theorem dL_law_1104 : decode cL_law 1104 = .ok (.aload_n 2, 1) := by decide +kernel
theorem dL_law_1105 : decode cL_law 1105 = .ok (.invokevirtual 128, 3) := by decide +kernel
theorem dL_law_1108 : decode cL_law 1108 = .ok (.if_icmp .eq 41, 3) := by decide +kernel
theorem dL_law_1111 : decode cL_law 1111 = .ok (.iconst 0, 1) := by decide +kernel
theorem dL_law_1112 : decode cL_law 1112 = .ok (.ireturn, 1) := by decide +kernel
theorem dL_law_1113 : decode cL_law 1113 = .ok (.aload_n 1, 1) := by decide +kernel
theorem dL_law_1114 : decode cL_law 1114 = .ok (.invokevirtual 129, 3) := by decide +kernel
theorem dL_law_1117 : decode cL_law 1117 = .ok (.aload_n 2, 1) := by decide +kernel
theorem dL_law_1118 : decode cL_law 1118 = .ok (.invokevirtual 132, 3) := by decide +kernel
theorem dL_law_1121 : decode cL_law 1121 = .ok (.if_icmp .eq 28, 3) := by decide +kernel
theorem dL_law_1124 : decode cL_law 1124 = .ok (.iconst 0, 1) := by decide +kernel
theorem dL_law_1125 : decode cL_law 1125 = .ok (.ireturn, 1) := by decide +kernel
theorem dL_law_1126 : decode cL_law 1126 = .ok (.aload_n 1, 1) := by decide +kernel
theorem dL_law_1127 : decode cL_law 1127 = .ok (.aload_n 0, 1) := by decide +kernel
theorem dL_law_1128 : decode cL_law 1128 = .ok (.iload_n 3, 1) := by decide +kernel
theorem dL_law_1129 : decode cL_law 1129 = .ok (.iconst 1, 1) := by decide +kernel
theorem dL_law_1130 : decode cL_law 1130 = .ok (.iadd, 1) := by decide +kernel
theorem dL_law_1131 : decode cL_law 1131 = .ok (.iaload, 1) := by decide +kernel
theorem dL_law_1132 : decode cL_law 1132 = .ok (.invokevirtual 133, 3) := by decide +kernel
theorem dL_law_1135 : decode cL_law 1135 = .ok (.aload_n 2, 1) := by decide +kernel
theorem dL_law_1136 : decode cL_law 1136 = .ok (.aload_n 0, 1) := by decide +kernel
theorem dL_law_1137 : decode cL_law 1137 = .ok (.iload_n 3, 1) := by decide +kernel
theorem dL_law_1138 : decode cL_law 1138 = .ok (.iconst 1, 1) := by decide +kernel
theorem dL_law_1139 : decode cL_law 1139 = .ok (.iadd, 1) := by decide +kernel
theorem dL_law_1140 : decode cL_law 1140 = .ok (.iaload, 1) := by decide +kernel
theorem dL_law_1141 : decode cL_law 1141 = .ok (.invokevirtual 136, 3) := by decide +kernel
theorem dL_law_1144 : decode cL_law 1144 = .ok (.if_icmp .eq 5, 3) := by decide +kernel
theorem dL_law_1147 : decode cL_law 1147 = .ok (.iconst 0, 1) := by decide +kernel
theorem dL_law_1148 : decode cL_law 1148 = .ok (.ireturn, 1) := by decide +kernel
theorem dL_law_1149 : decode cL_law 1149 = .ok (.iinc 3 6, 3) := by decide +kernel
theorem dL_law_1152 : decode cL_law 1152 = .ok (.goto (-1134), 3) := by decide +kernel
theorem dL_law_1155 : decode cL_law 1155 = .ok (.iconst 1, 1) := by decide +kernel
theorem dL_law_1156 : decode cL_law 1156 = .ok (.ireturn, 1) := by decide +kernel
