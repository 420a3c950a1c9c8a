theorem dX0_init_0 : decode cX0_init 0 = .ok (.aload_n 0, 1) := by decide +kernel
theorem dX0_init_1 : decode cX0_init 1 = .ok (.invokespecial 3, 3) := by decide +kernel
theorem dX0_init_4 : decode cX0_init 4 = .ok (.aload_n 0, 1) := by decide +kernel
theorem dX0_init_5 : decode cX0_init 5 = .ok (.bipush 8, 2) := by decide +kernel
theorem dX0_init_7 : decode cX0_init 7 = .ok (.bipush 81, 2) := by decide +kernel
theorem dX0_init_9 : decode cX0_init 9 = .ok (.multianewarray 11 2, 4) := by decide +kernel
theorem dX0_init_13 : decode cX0_init 13 = .ok (.putfield 13, 3) := by decide +kernel
theorem dX0_init_16 : decode cX0_init 16 = .ok (.aload_n 0, 1) := by decide +kernel
theorem dX0_init_17 : decode cX0_init 17 = .ok (.bipush 81, 2) := by decide +kernel
theorem dX0_init_19 : decode cX0_init 19 = .ok (.newarray .int, 2) := by decide +kernel
theorem dX0_init_21 : decode cX0_init 21 = .ok (.putfield 16, 3) := by decide +kernel
theorem dX0_init_24 : decode cX0_init 24 = .ok (.aload_n 0, 1) := by decide +kernel
theorem dX0_init_25 : decode cX0_init 25 = .ok (.iconst 3, 1) := by decide +kernel
theorem dX0_init_26 : decode cX0_init 26 = .ok (.newarray .int, 2) := by decide +kernel
theorem dX0_init_28 : decode cX0_init 28 = .ok (.putfield 20, 3) := by decide +kernel
theorem dX0_init_31 : decode cX0_init 31 = .ok (.aload_n 0, 1) := by decide +kernel
theorem dX0_init_32 : decode cX0_init 32 = .ok (.iconst 1, 1) := by decide +kernel
theorem dX0_init_33 : decode cX0_init 33 = .ok (.putfield 23, 3) := by decide +kernel
theorem dX0_init_36 : decode cX0_init 36 = .ok (.aload_n 0, 1) := by decide +kernel
theorem dX0_init_37 : decode cX0_init 37 = .ok (.bipush 32, 2) := by decide +kernel
theorem dX0_init_39 : decode cX0_init 39 = .ok (.newarray .int, 2) := by decide +kernel
theorem dX0_init_41 : decode cX0_init 41 = .ok (.putfield 27, 3) := by decide +kernel
theorem dX0_init_44 : decode cX0_init 44 = .ok (.aload_n 0, 1) := by decide +kernel
theorem dX0_init_45 : decode cX0_init 45 = .ok (.bipush (-9), 2) := by decide +kernel
theorem dX0_init_47 : decode cX0_init 47 = .ok (.putfield 30, 3) := by decide +kernel
theorem dX0_init_50 : decode cX0_init 50 = .ok (.aload_n 0, 1) := by decide +kernel
theorem dX0_init_51 : decode cX0_init 51 = .ok (.bipush (-9), 2) := by decide +kernel
theorem dX0_init_53 : decode cX0_init 53 = .ok (.putfield 33, 3) := by decide +kernel
theorem dX0_init_56 : decode cX0_init 56 = .ok (.aload_n 0, 1) := by decide +kernel
theorem dX0_init_57 : decode cX0_init 57 = .ok (.aload_n 1, 1) := by decide +kernel
theorem dX0_init_58 : decode cX0_init 58 = .ok (.putfield 36, 3) := by decide +kernel
theorem dX0_init_61 : decode cX0_init 61 = .ok (.return_, 1) := by decide +kernel
theorem dX0_seek_0 : decode cX0_seek 0 = .ok (.aload_n 0, 1) := by decide +kernel
theorem dX0_seek_1 : decode cX0_seek 1 = .ok (.iconst 1, 1) := by decide +kernel
theorem dX0_seek_2 : decode cX0_seek 2 = .ok (.putfield 23, 3) := by decide +kernel
theorem dX0_seek_5 : decode cX0_seek 5 = .ok (.iconst 0, 1) := by decide +kernel
theorem dX0_seek_6 : decode cX0_seek 6 = .ok (.istore_n 1, 1) := by decide +kernel
theorem dX0_seek_7 : decode cX0_seek 7 = .ok (.iload_n 1, 1) := by decide +kernel
theorem dX0_seek_8 : decode cX0_seek 8 = .ok (.aload_n 0, 1) := by decide +kernel
theorem dX0_seek_9 : decode cX0_seek 9 = .ok (.getfield 36, 3) := by decide +kernel
theorem dX0_seek_12 : decode cX0_seek 12 = .ok (.getfield 40, 3) := by decide +kernel
theorem dX0_seek_15 : decode cX0_seek 15 = .ok (.if_icmp .ge 19, 3) := by decide +kernel
theorem dX0_seek_18 : decode cX0_seek 18 = .ok (.aload_n 0, 1) := by decide +kernel
theorem dX0_seek_19 : decode cX0_seek 19 = .ok (.dup, 1) := by decide +kernel
theorem dX0_seek_20 : decode cX0_seek 20 = .ok (.getfield 23, 3) := by decide +kernel
theorem dX0_seek_23 : decode cX0_seek 23 = .ok (.iconst 3, 1) := by decide +kernel
theorem dX0_seek_24 : decode cX0_seek 24 = .ok (.imul, 1) := by decide +kernel
theorem dX0_seek_25 : decode cX0_seek 25 = .ok (.putfield 23, 3) := by decide +kernel
theorem dX0_seek_28 : decode cX0_seek 28 = .ok (.iinc 1 1, 3) := by decide +kernel
theorem dX0_seek_31 : decode cX0_seek 31 = .ok (.goto (-24), 3) := by decide +kernel
theorem dX0_seek_34 : decode cX0_seek 34 = .ok (.aload_n 0, 1) := by decide +kernel
theorem dX0_seek_35 : decode cX0_seek 35 = .ok (.bipush (-9), 2) := by decide +kernel
theorem dX0_seek_37 : decode cX0_seek 37 = .ok (.putfield 33, 3) := by decide +kernel
theorem dX0_seek_40 : decode cX0_seek 40 = .ok (.aload_n 0, 1) := by decide +kernel
theorem dX0_seek_41 : decode cX0_seek 41 = .ok (.bipush (-9), 2) := by decide +kernel
theorem dX0_seek_43 : decode cX0_seek 43 = .ok (.putfield 30, 3) := by decide +kernel
theorem dX0_seek_46 : decode cX0_seek 46 = .ok (.aload_n 0, 1) := by decide +kernel
theorem dX0_seek_47 : decode cX0_seek 47 = .ok (.getfield 16, 3) := by decide +kernel
theorem dX0_seek_50 : decode cX0_seek 50 = .ok (.iconst 0, 1) := by decide +kernel
theorem dX0_seek_51 : decode cX0_seek 51 = .ok (.invokestatic 45, 3) := by decide +kernel
theorem dX0_seek_54 : decode cX0_seek 54 = .ok (.aload_n 0, 1) := by decide +kernel
theorem dX0_seek_55 : decode cX0_seek 55 = .ok (.getfield 36, 3) := by decide +kernel
theorem dX0_seek_58 : decode cX0_seek 58 = .ok (.getfield 51, 3) := by decide +kernel
theorem dX0_seek_61 : decode cX0_seek 61 = .ok (.iconst 1, 1) := by decide +kernel
theorem dX0_seek_62 : decode cX0_seek 62 = .ok (.isub, 1) := by decide +kernel
theorem dX0_seek_63 : decode cX0_seek 63 = .ok (.istore_n 1, 1) := by decide +kernel
theorem dX0_seek_64 : decode cX0_seek 64 = .ok (.iload_n 1, 1) := by decide +kernel
theorem dX0_seek_65 : decode cX0_seek 65 = .ok (.ifCond .lt 27, 3) := by decide +kernel
theorem dX0_seek_68 : decode cX0_seek 68 = .ok (.aload_n 0, 1) := by decide +kernel
theorem dX0_seek_69 : decode cX0_seek 69 = .ok (.iload_n 1, 1) := by decide +kernel
theorem dX0_seek_70 : decode cX0_seek 70 = .ok (.invokevirtual 54, 3) := by decide +kernel
theorem dX0_seek_73 : decode cX0_seek 73 = .ok (.ifCond .ne 8, 3) := by decide +kernel
theorem dX0_seek_76 : decode cX0_seek 76 = .ok (.aload_n 0, 1) := by decide +kernel
theorem dX0_seek_77 : decode cX0_seek 77 = .ok (.iload_n 1, 1) := by decide +kernel
theorem dX0_seek_78 : decode cX0_seek 78 = .ok (.putfield 33, 3) := by decide +kernel
theorem dX0_seek_81 : decode cX0_seek 81 = .ok (.aload_n 0, 1) := by decide +kernel
theorem dX0_seek_82 : decode cX0_seek 82 = .ok (.iload_n 1, 1) := by decide +kernel
theorem dX0_seek_83 : decode cX0_seek 83 = .ok (.invokevirtual 58, 3) := by decide +kernel
theorem dX0_seek_86 : decode cX0_seek 86 = .ok (.iinc 1 (-1), 3) := by decide +kernel
theorem dX0_seek_89 : decode cX0_seek 89 = .ok (.goto (-25), 3) := by decide +kernel
theorem dX0_seek_92 : decode cX0_seek 92 = .ok (.aload_n 0, 1) := by decide +kernel
theorem dX0_seek_93 : decode cX0_seek 93 = .ok (.getfield 33, 3) := by decide +kernel
theorem dX0_seek_96 : decode cX0_seek 96 = .ok (.bipush (-9), 2) := by decide +kernel
theorem dX0_seek_98 : decode cX0_seek 98 = .ok (.if_icmp .ne 7, 3) := by decide +kernel
theorem dX0_seek_101 : decode cX0_seek 101 = .ok (.aload_n 0, 1) := by decide +kernel
theorem dX0_seek_102 : decode cX0_seek 102 = .ok (.invokevirtual 62, 3) := by decide +kernel
theorem dX0_seek_105 : decode cX0_seek 105 = .ok (.return_, 1) := by decide +kernel
theorem dX0_weigh_0 : decode cX0_weigh 0 = .ok (.iconst 0, 1) := by decide +kernel
theorem dX0_weigh_1 : decode cX0_weigh 1 = .ok (.istore_n 2, 1) := by decide +kernel
theorem dX0_weigh_2 : decode cX0_weigh 2 = .ok (.iconst 0, 1) := by decide +kernel
theorem dX0_weigh_3 : decode cX0_weigh 3 = .ok (.istore_n 3, 1) := by decide +kernel
theorem dX0_weigh_4 : decode cX0_weigh 4 = .ok (.iload_n 3, 1) := by decide +kernel
theorem dX0_weigh_5 : decode cX0_weigh 5 = .ok (.aload_n 0, 1) := by decide +kernel
theorem dX0_weigh_6 : decode cX0_weigh 6 = .ok (.getfield 23, 3) := by decide +kernel
theorem dX0_weigh_9 : decode cX0_weigh 9 = .ok (.if_icmp .ge 58, 3) := by decide +kernel
theorem dX0_weigh_12 : decode cX0_weigh 12 = .ok (.aload_n 0, 1) := by decide +kernel
theorem dX0_weigh_13 : decode cX0_weigh 13 = .ok (.iload_n 1, 1) := by decide +kernel
theorem dX0_weigh_14 : decode cX0_weigh 14 = .ok (.iload_n 3, 1) := by decide +kernel
theorem dX0_weigh_15 : decode cX0_weigh 15 = .ok (.invokevirtual 65, 3) := by decide +kernel
theorem dX0_weigh_18 : decode cX0_weigh 18 = .ok (.istore 4, 2) := by decide +kernel
theorem dX0_weigh_20 : decode cX0_weigh 20 = .ok (.iload_n 2, 1) := by decide +kernel
theorem dX0_weigh_21 : decode cX0_weigh 21 = .ok (.ifCond .ne 11, 3) := by decide +kernel
theorem dX0_weigh_24 : decode cX0_weigh 24 = .ok (.iload 4, 2) := by decide +kernel
theorem dX0_weigh_26 : decode cX0_weigh 26 = .ok (.sipush 10000, 3) := by decide +kernel
theorem dX0_weigh_29 : decode cX0_weigh 29 = .ok (.if_icmp .ge 7, 3) := by decide +kernel
theorem dX0_weigh_32 : decode cX0_weigh 32 = .ok (.iconst 1, 1) := by decide +kernel
theorem dX0_weigh_33 : decode cX0_weigh 33 = .ok (.goto 4, 3) := by decide +kernel
theorem dX0_weigh_36 : decode cX0_weigh 36 = .ok (.iconst 0, 1) := by decide +kernel
theorem dX0_weigh_37 : decode cX0_weigh 37 = .ok (.istore_n 2, 1) := by decide +kernel
theorem dX0_weigh_38 : decode cX0_weigh 38 = .ok (.aload_n 0, 1) := by decide +kernel
theorem dX0_weigh_39 : decode cX0_weigh 39 = .ok (.getfield 13, 3) := by decide +kernel
theorem dX0_weigh_42 : decode cX0_weigh 42 = .ok (.iload_n 1, 1) := by decide +kernel
theorem dX0_weigh_43 : decode cX0_weigh 43 = .ok (.aaload, 1) := by decide +kernel
theorem dX0_weigh_44 : decode cX0_weigh 44 = .ok (.iload_n 3, 1) := by decide +kernel
theorem dX0_weigh_45 : decode cX0_weigh 45 = .ok (.sipush 10000, 3) := by decide +kernel
theorem dX0_weigh_48 : decode cX0_weigh 48 = .ok (.iload 4, 2) := by decide +kernel
theorem dX0_weigh_50 : decode cX0_weigh 50 = .ok (.aload_n 0, 1) := by decide +kernel
theorem dX0_weigh_51 : decode cX0_weigh 51 = .ok (.getfield 16, 3) := by decide +kernel
theorem dX0_weigh_54 : decode cX0_weigh 54 = .ok (.iload_n 3, 1) := by decide +kernel
theorem dX0_weigh_55 : decode cX0_weigh 55 = .ok (.iaload, 1) := by decide +kernel
theorem dX0_weigh_56 : decode cX0_weigh 56 = .ok (.iadd, 1) := by decide +kernel
theorem dX0_weigh_57 : decode cX0_weigh 57 = .ok (.invokestatic 69, 3) := by decide +kernel
theorem dX0_weigh_60 : decode cX0_weigh 60 = .ok (.iastore, 1) := by decide +kernel
theorem dX0_weigh_61 : decode cX0_weigh 61 = .ok (.iinc 3 1, 3) := by decide +kernel
theorem dX0_weigh_64 : decode cX0_weigh 64 = .ok (.goto (-60), 3) := by decide +kernel
theorem dX0_weigh_67 : decode cX0_weigh 67 = .ok (.iload_n 2, 1) := by decide +kernel
theorem dX0_weigh_68 : decode cX0_weigh 68 = .ok (.ireturn, 1) := by decide +kernel
theorem dX0_lowIn_0 : decode cX0_lowIn 0 = .ok (.iconst 0, 1) := by decide +kernel
theorem dX0_lowIn_1 : decode cX0_lowIn 1 = .ok (.istore_n 3, 1) := by decide +kernel
theorem dX0_lowIn_2 : decode cX0_lowIn 2 = .ok (.iload_n 2, 1) := by decide +kernel
theorem dX0_lowIn_3 : decode cX0_lowIn 3 = .ok (.istore 4, 2) := by decide +kernel
theorem dX0_lowIn_5 : decode cX0_lowIn 5 = .ok (.aload_n 0, 1) := by decide +kernel
theorem dX0_lowIn_6 : decode cX0_lowIn 6 = .ok (.getfield 20, 3) := by decide +kernel
theorem dX0_lowIn_9 : decode cX0_lowIn 9 = .ok (.iconst 0, 1) := by decide +kernel
theorem dX0_lowIn_10 : decode cX0_lowIn 10 = .ok (.invokestatic 45, 3) := by decide +kernel
theorem dX0_lowIn_13 : decode cX0_lowIn 13 = .ok (.aload_n 0, 1) := by decide +kernel
theorem dX0_lowIn_14 : decode cX0_lowIn 14 = .ok (.getfield 36, 3) := by decide +kernel
theorem dX0_lowIn_17 : decode cX0_lowIn 17 = .ok (.getfield 40, 3) := by decide +kernel
theorem dX0_lowIn_20 : decode cX0_lowIn 20 = .ok (.iconst 1, 1) := by decide +kernel
theorem dX0_lowIn_21 : decode cX0_lowIn 21 = .ok (.isub, 1) := by decide +kernel
theorem dX0_lowIn_22 : decode cX0_lowIn 22 = .ok (.istore 5, 2) := by decide +kernel
theorem dX0_lowIn_24 : decode cX0_lowIn 24 = .ok (.iload 5, 2) := by decide +kernel
theorem dX0_lowIn_26 : decode cX0_lowIn 26 = .ok (.ifCond .lt 81, 3) := by decide +kernel
theorem dX0_lowIn_29 : decode cX0_lowIn 29 = .ok (.iload 4, 2) := by decide +kernel
theorem dX0_lowIn_31 : decode cX0_lowIn 31 = .ok (.iconst 3, 1) := by decide +kernel
theorem dX0_lowIn_32 : decode cX0_lowIn 32 = .ok (.irem, 1) := by decide +kernel
theorem dX0_lowIn_33 : decode cX0_lowIn 33 = .ok (.istore 6, 2) := by decide +kernel
theorem dX0_lowIn_35 : decode cX0_lowIn 35 = .ok (.iload 4, 2) := by decide +kernel
theorem dX0_lowIn_37 : decode cX0_lowIn 37 = .ok (.iconst 3, 1) := by decide +kernel
theorem dX0_lowIn_38 : decode cX0_lowIn 38 = .ok (.idiv, 1) := by decide +kernel
theorem dX0_lowIn_39 : decode cX0_lowIn 39 = .ok (.istore 4, 2) := by decide +kernel
theorem dX0_lowIn_41 : decode cX0_lowIn 41 = .ok (.aload_n 0, 1) := by decide +kernel
theorem dX0_lowIn_42 : decode cX0_lowIn 42 = .ok (.getfield 20, 3) := by decide +kernel
theorem dX0_lowIn_45 : decode cX0_lowIn 45 = .ok (.iload 6, 2) := by decide +kernel
theorem dX0_lowIn_47 : decode cX0_lowIn 47 = .ok (.dup2, 1) := by decide +kernel
theorem dX0_lowIn_48 : decode cX0_lowIn 48 = .ok (.iaload, 1) := by decide +kernel
theorem dX0_lowIn_49 : decode cX0_lowIn 49 = .ok (.iconst 1, 1) := by decide +kernel
theorem dX0_lowIn_50 : decode cX0_lowIn 50 = .ok (.iadd, 1) := by decide +kernel
theorem dX0_lowIn_51 : decode cX0_lowIn 51 = .ok (.iastore, 1) := by decide +kernel
theorem dX0_lowIn_52 : decode cX0_lowIn 52 = .ok (.iload 6, 2) := by decide +kernel
theorem dX0_lowIn_54 : decode cX0_lowIn 54 = .ok (.aload_n 0, 1) := by decide +kernel
theorem dX0_lowIn_55 : decode cX0_lowIn 55 = .ok (.getfield 36, 3) := by decide +kernel
theorem dX0_lowIn_58 : decode cX0_lowIn 58 = .ok (.iload 5, 2) := by decide +kernel
theorem dX0_lowIn_60 : decode cX0_lowIn 60 = .ok (.iload_n 1, 1) := by decide +kernel
theorem dX0_lowIn_61 : decode cX0_lowIn 61 = .ok (.invokevirtual 74, 3) := by decide +kernel
theorem dX0_lowIn_64 : decode cX0_lowIn 64 = .ok (.isub, 1) := by decide +kernel
theorem dX0_lowIn_65 : decode cX0_lowIn 65 = .ok (.istore 7, 2) := by decide +kernel
theorem dX0_lowIn_67 : decode cX0_lowIn 67 = .ok (.iload 7, 2) := by decide +kernel
theorem dX0_lowIn_69 : decode cX0_lowIn 69 = .ok (.ifCond .lt 23, 3) := by decide +kernel
theorem dX0_lowIn_72 : decode cX0_lowIn 72 = .ok (.aload_n 0, 1) := by decide +kernel
theorem dX0_lowIn_73 : decode cX0_lowIn 73 = .ok (.getfield 20, 3) := by decide +kernel
theorem dX0_lowIn_76 : decode cX0_lowIn 76 = .ok (.iload 6, 2) := by decide +kernel
theorem dX0_lowIn_78 : decode cX0_lowIn 78 = .ok (.iaload, 1) := by decide +kernel
theorem dX0_lowIn_79 : decode cX0_lowIn 79 = .ok (.aload_n 0, 1) := by decide +kernel
theorem dX0_lowIn_80 : decode cX0_lowIn 80 = .ok (.getfield 36, 3) := by decide +kernel
theorem dX0_lowIn_83 : decode cX0_lowIn 83 = .ok (.getfield 77, 3) := by decide +kernel
theorem dX0_lowIn_86 : decode cX0_lowIn 86 = .ok (.iload 6, 2) := by decide +kernel
theorem dX0_lowIn_88 : decode cX0_lowIn 88 = .ok (.iaload, 1) := by decide +kernel
theorem dX0_lowIn_89 : decode cX0_lowIn 89 = .ok (.if_icmp .le 7, 3) := by decide +kernel
theorem dX0_lowIn_92 : decode cX0_lowIn 92 = .ok (.sipush 10000, 3) := by decide +kernel
theorem dX0_lowIn_95 : decode cX0_lowIn 95 = .ok (.ireturn, 1) := by decide +kernel
theorem dX0_lowIn_96 : decode cX0_lowIn 96 = .ok (.iload_n 3, 1) := by decide +kernel
theorem dX0_lowIn_97 : decode cX0_lowIn 97 = .ok (.iload 7, 2) := by decide +kernel
theorem dX0_lowIn_99 : decode cX0_lowIn 99 = .ok (.iadd, 1) := by decide +kernel
theorem dX0_lowIn_100 : decode cX0_lowIn 100 = .ok (.istore_n 3, 1) := by decide +kernel
theorem dX0_lowIn_101 : decode cX0_lowIn 101 = .ok (.iinc 5 (-1), 3) := by decide +kernel
theorem dX0_lowIn_104 : decode cX0_lowIn 104 = .ok (.goto (-80), 3) := by decide +kernel
theorem dX0_lowIn_107 : decode cX0_lowIn 107 = .ok (.iload_n 3, 1) := by decide +kernel
theorem dX0_lowIn_108 : decode cX0_lowIn 108 = .ok (.ireturn, 1) := by decide +kernel
theorem dX0_lookBack_0 : decode cX0_lookBack 0 = .ok (.aload_n 0, 1) := by decide +kernel
theorem dX0_lookBack_1 : decode cX0_lookBack 1 = .ok (.getfield 13, 3) := by decide +kernel
theorem dX0_lookBack_4 : decode cX0_lookBack 4 = .ok (.iload_n 1, 1) := by decide +kernel
theorem dX0_lookBack_5 : decode cX0_lookBack 5 = .ok (.aaload, 1) := by decide +kernel
theorem dX0_lookBack_6 : decode cX0_lookBack 6 = .ok (.iconst 0, 1) := by decide +kernel
theorem dX0_lookBack_7 : decode cX0_lookBack 7 = .ok (.aload_n 0, 1) := by decide +kernel
theorem dX0_lookBack_8 : decode cX0_lookBack 8 = .ok (.getfield 16, 3) := by decide +kernel
theorem dX0_lookBack_11 : decode cX0_lookBack 11 = .ok (.iconst 0, 1) := by decide +kernel
theorem dX0_lookBack_12 : decode cX0_lookBack 12 = .ok (.aload_n 0, 1) := by decide +kernel
theorem dX0_lookBack_13 : decode cX0_lookBack 13 = .ok (.getfield 23, 3) := by decide +kernel
theorem dX0_lookBack_16 : decode cX0_lookBack 16 = .ok (.invokestatic 80, 3) := by decide +kernel
theorem dX0_lookBack_19 : decode cX0_lookBack 19 = .ok (.iconst 1, 1) := by decide +kernel
theorem dX0_lookBack_20 : decode cX0_lookBack 20 = .ok (.istore_n 2, 1) := by decide +kernel
theorem dX0_lookBack_21 : decode cX0_lookBack 21 = .ok (.iload_n 2, 1) := by decide +kernel
theorem dX0_lookBack_22 : decode cX0_lookBack 22 = .ok (.aload_n 0, 1) := by decide +kernel
theorem dX0_lookBack_23 : decode cX0_lookBack 23 = .ok (.getfield 23, 3) := by decide +kernel
theorem dX0_lookBack_26 : decode cX0_lookBack 26 = .ok (.if_icmp .ge 47, 3) := by decide +kernel
theorem dX0_lookBack_29 : decode cX0_lookBack 29 = .ok (.iconst 0, 1) := by decide +kernel
theorem dX0_lookBack_30 : decode cX0_lookBack 30 = .ok (.istore_n 3, 1) := by decide +kernel
theorem dX0_lookBack_31 : decode cX0_lookBack 31 = .ok (.iload_n 3, 1) := by decide +kernel
theorem dX0_lookBack_32 : decode cX0_lookBack 32 = .ok (.aload_n 0, 1) := by decide +kernel
theorem dX0_lookBack_33 : decode cX0_lookBack 33 = .ok (.getfield 23, 3) := by decide +kernel
theorem dX0_lookBack_36 : decode cX0_lookBack 36 = .ok (.if_icmp .ge 30, 3) := by decide +kernel
theorem dX0_lookBack_39 : decode cX0_lookBack 39 = .ok (.iload_n 3, 1) := by decide +kernel
theorem dX0_lookBack_40 : decode cX0_lookBack 40 = .ok (.iload_n 2, 1) := by decide +kernel
theorem dX0_lookBack_41 : decode cX0_lookBack 41 = .ok (.idiv, 1) := by decide +kernel
theorem dX0_lookBack_42 : decode cX0_lookBack 42 = .ok (.iconst 3, 1) := by decide +kernel
theorem dX0_lookBack_43 : decode cX0_lookBack 43 = .ok (.irem, 1) := by decide +kernel
theorem dX0_lookBack_44 : decode cX0_lookBack 44 = .ok (.ifCond .ne 16, 3) := by decide +kernel
theorem dX0_lookBack_47 : decode cX0_lookBack 47 = .ok (.aload_n 0, 1) := by decide +kernel
theorem dX0_lookBack_48 : decode cX0_lookBack 48 = .ok (.iload_n 3, 1) := by decide +kernel
theorem dX0_lookBack_49 : decode cX0_lookBack 49 = .ok (.iload_n 3, 1) := by decide +kernel
theorem dX0_lookBack_50 : decode cX0_lookBack 50 = .ok (.iload_n 2, 1) := by decide +kernel
theorem dX0_lookBack_51 : decode cX0_lookBack 51 = .ok (.iadd, 1) := by decide +kernel
theorem dX0_lookBack_52 : decode cX0_lookBack 52 = .ok (.iload_n 3, 1) := by decide +kernel
theorem dX0_lookBack_53 : decode cX0_lookBack 53 = .ok (.iconst 2, 1) := by decide +kernel
theorem dX0_lookBack_54 : decode cX0_lookBack 54 = .ok (.iload_n 2, 1) := by decide +kernel
theorem dX0_lookBack_55 : decode cX0_lookBack 55 = .ok (.imul, 1) := by decide +kernel
theorem dX0_lookBack_56 : decode cX0_lookBack 56 = .ok (.iadd, 1) := by decide +kernel
theorem dX0_lookBack_57 : decode cX0_lookBack 57 = .ok (.invokevirtual 86, 3) := by decide +kernel
theorem dX0_lookBack_60 : decode cX0_lookBack 60 = .ok (.iinc 3 1, 3) := by decide +kernel
theorem dX0_lookBack_63 : decode cX0_lookBack 63 = .ok (.goto (-32), 3) := by decide +kernel
theorem dX0_lookBack_66 : decode cX0_lookBack 66 = .ok (.iload_n 2, 1) := by decide +kernel
theorem dX0_lookBack_67 : decode cX0_lookBack 67 = .ok (.iconst 3, 1) := by decide +kernel
theorem dX0_lookBack_68 : decode cX0_lookBack 68 = .ok (.imul, 1) := by decide +kernel
theorem dX0_lookBack_69 : decode cX0_lookBack 69 = .ok (.istore_n 2, 1) := by decide +kernel
theorem dX0_lookBack_70 : decode cX0_lookBack 70 = .ok (.goto (-49), 3) := by decide +kernel
theorem dX0_lookBack_73 : decode cX0_lookBack 73 = .ok (.return_, 1) := by decide +kernel
theorem dX0_letChange_0 : decode cX0_letChange 0 = .ok (.aload_n 0, 1) := by decide +kernel
theorem dX0_letChange_1 : decode cX0_letChange 1 = .ok (.getfield 16, 3) := by decide +kernel
theorem dX0_letChange_4 : decode cX0_letChange 4 = .ok (.iload_n 1, 1) := by decide +kernel
theorem dX0_letChange_5 : decode cX0_letChange 5 = .ok (.iaload, 1) := by decide +kernel
theorem dX0_letChange_6 : decode cX0_letChange 6 = .ok (.aload_n 0, 1) := by decide +kernel
theorem dX0_letChange_7 : decode cX0_letChange 7 = .ok (.getfield 16, 3) := by decide +kernel
theorem dX0_letChange_10 : decode cX0_letChange 10 = .ok (.iload_n 2, 1) := by decide +kernel
theorem dX0_letChange_11 : decode cX0_letChange 11 = .ok (.iaload, 1) := by decide +kernel
theorem dX0_letChange_12 : decode cX0_letChange 12 = .ok (.aload_n 0, 1) := by decide +kernel
theorem dX0_letChange_13 : decode cX0_letChange 13 = .ok (.getfield 16, 3) := by decide +kernel
theorem dX0_letChange_16 : decode cX0_letChange 16 = .ok (.iload_n 3, 1) := by decide +kernel
theorem dX0_letChange_17 : decode cX0_letChange 17 = .ok (.iaload, 1) := by decide +kernel
theorem dX0_letChange_18 : decode cX0_letChange 18 = .ok (.invokestatic 69, 3) := by decide +kernel
theorem dX0_letChange_21 : decode cX0_letChange 21 = .ok (.invokestatic 69, 3) := by decide +kernel
theorem dX0_letChange_24 : decode cX0_letChange 24 = .ok (.iconst 1, 1) := by decide +kernel
theorem dX0_letChange_25 : decode cX0_letChange 25 = .ok (.iadd, 1) := by decide +kernel
theorem dX0_letChange_26 : decode cX0_letChange 26 = .ok (.istore 4, 2) := by decide +kernel
theorem dX0_letChange_28 : decode cX0_letChange 28 = .ok (.aload_n 0, 1) := by decide +kernel
theorem dX0_letChange_29 : decode cX0_letChange 29 = .ok (.getfield 16, 3) := by decide +kernel
theorem dX0_letChange_32 : decode cX0_letChange 32 = .ok (.iload_n 1, 1) := by decide +kernel
theorem dX0_letChange_33 : decode cX0_letChange 33 = .ok (.aload_n 0, 1) := by decide +kernel
theorem dX0_letChange_34 : decode cX0_letChange 34 = .ok (.getfield 16, 3) := by decide +kernel
theorem dX0_letChange_37 : decode cX0_letChange 37 = .ok (.iload_n 1, 1) := by decide +kernel
theorem dX0_letChange_38 : decode cX0_letChange 38 = .ok (.iaload, 1) := by decide +kernel
theorem dX0_letChange_39 : decode cX0_letChange 39 = .ok (.iload 4, 2) := by decide +kernel
theorem dX0_letChange_41 : decode cX0_letChange 41 = .ok (.invokestatic 69, 3) := by decide +kernel
theorem dX0_letChange_44 : decode cX0_letChange 44 = .ok (.iastore, 1) := by decide +kernel
theorem dX0_letChange_45 : decode cX0_letChange 45 = .ok (.aload_n 0, 1) := by decide +kernel
theorem dX0_letChange_46 : decode cX0_letChange 46 = .ok (.getfield 16, 3) := by decide +kernel
theorem dX0_letChange_49 : decode cX0_letChange 49 = .ok (.iload_n 2, 1) := by decide +kernel
theorem dX0_letChange_50 : decode cX0_letChange 50 = .ok (.aload_n 0, 1) := by decide +kernel
theorem dX0_letChange_51 : decode cX0_letChange 51 = .ok (.getfield 16, 3) := by decide +kernel
theorem dX0_letChange_54 : decode cX0_letChange 54 = .ok (.iload_n 2, 1) := by decide +kernel
theorem dX0_letChange_55 : decode cX0_letChange 55 = .ok (.iaload, 1) := by decide +kernel
theorem dX0_letChange_56 : decode cX0_letChange 56 = .ok (.iload 4, 2) := by decide +kernel
theorem dX0_letChange_58 : decode cX0_letChange 58 = .ok (.invokestatic 69, 3) := by decide +kernel
theorem dX0_letChange_61 : decode cX0_letChange 61 = .ok (.iastore, 1) := by decide +kernel
theorem dX0_letChange_62 : decode cX0_letChange 62 = .ok (.aload_n 0, 1) := by decide +kernel
theorem dX0_letChange_63 : decode cX0_letChange 63 = .ok (.getfield 16, 3) := by decide +kernel
theorem dX0_letChange_66 : decode cX0_letChange 66 = .ok (.iload_n 3, 1) := by decide +kernel
theorem dX0_letChange_67 : decode cX0_letChange 67 = .ok (.aload_n 0, 1) := by decide +kernel
theorem dX0_letChange_68 : decode cX0_letChange 68 = .ok (.getfield 16, 3) := by decide +kernel
theorem dX0_letChange_71 : decode cX0_letChange 71 = .ok (.iload_n 3, 1) := by decide +kernel
theorem dX0_letChange_72 : decode cX0_letChange 72 = .ok (.iaload, 1) := by decide +kernel
theorem dX0_letChange_73 : decode cX0_letChange 73 = .ok (.iload 4, 2) := by decide +kernel
theorem dX0_letChange_75 : decode cX0_letChange 75 = .ok (.invokestatic 69, 3) := by decide +kernel
theorem dX0_letChange_78 : decode cX0_letChange 78 = .ok (.iastore, 1) := by decide +kernel
theorem dX0_letChange_79 : decode cX0_letChange 79 = .ok (.return_, 1) := by decide +kernel
theorem dX0_choose_0 : decode cX0_choose 0 = .ok (.aload_n 0, 1) := by decide +kernel
theorem dX0_choose_1 : decode cX0_choose 1 = .ok (.iconst 0, 1) := by decide +kernel
theorem dX0_choose_2 : decode cX0_choose 2 = .ok (.bipush (-9), 2) := by decide +kernel
theorem dX0_choose_4 : decode cX0_choose 4 = .ok (.invokevirtual 90, 3) := by decide +kernel
theorem dX0_choose_7 : decode cX0_choose 7 = .ok (.istore_n 1, 1) := by decide +kernel
theorem dX0_choose_8 : decode cX0_choose 8 = .ok (.aload_n 0, 1) := by decide +kernel
theorem dX0_choose_9 : decode cX0_choose 9 = .ok (.aload_n 0, 1) := by decide +kernel
theorem dX0_choose_10 : decode cX0_choose 10 = .ok (.getfield 13, 3) := by decide +kernel
theorem dX0_choose_13 : decode cX0_choose 13 = .ok (.iconst 0, 1) := by decide +kernel
theorem dX0_choose_14 : decode cX0_choose 14 = .ok (.aaload, 1) := by decide +kernel
theorem dX0_choose_15 : decode cX0_choose 15 = .ok (.iload_n 1, 1) := by decide +kernel
theorem dX0_choose_16 : decode cX0_choose 16 = .ok (.iaload, 1) := by decide +kernel
theorem dX0_choose_17 : decode cX0_choose 17 = .ok (.putfield 30, 3) := by decide +kernel
theorem dX0_choose_20 : decode cX0_choose 20 = .ok (.aload_n 0, 1) := by decide +kernel
theorem dX0_choose_21 : decode cX0_choose 21 = .ok (.iconst 0, 1) := by decide +kernel
theorem dX0_choose_22 : decode cX0_choose 22 = .ok (.iload_n 1, 1) := by decide +kernel
theorem dX0_choose_23 : decode cX0_choose 23 = .ok (.invokevirtual 93, 3) := by decide +kernel
theorem dX0_choose_26 : decode cX0_choose 26 = .ok (.iconst 1, 1) := by decide +kernel
theorem dX0_choose_27 : decode cX0_choose 27 = .ok (.istore_n 2, 1) := by decide +kernel
theorem dX0_choose_28 : decode cX0_choose 28 = .ok (.iload_n 2, 1) := by decide +kernel
theorem dX0_choose_29 : decode cX0_choose 29 = .ok (.aload_n 0, 1) := by decide +kernel
theorem dX0_choose_30 : decode cX0_choose 30 = .ok (.getfield 36, 3) := by decide +kernel
theorem dX0_choose_33 : decode cX0_choose 33 = .ok (.getfield 51, 3) := by decide +kernel
theorem dX0_choose_36 : decode cX0_choose 36 = .ok (.if_icmp .ge 22, 3) := by decide +kernel
theorem dX0_choose_39 : decode cX0_choose 39 = .ok (.aload_n 0, 1) := by decide +kernel
theorem dX0_choose_40 : decode cX0_choose 40 = .ok (.iload_n 2, 1) := by decide +kernel
theorem dX0_choose_41 : decode cX0_choose 41 = .ok (.iload_n 1, 1) := by decide +kernel
theorem dX0_choose_42 : decode cX0_choose 42 = .ok (.invokevirtual 90, 3) := by decide +kernel
theorem dX0_choose_45 : decode cX0_choose 45 = .ok (.istore_n 1, 1) := by decide +kernel
theorem dX0_choose_46 : decode cX0_choose 46 = .ok (.aload_n 0, 1) := by decide +kernel
theorem dX0_choose_47 : decode cX0_choose 47 = .ok (.iload_n 2, 1) := by decide +kernel
theorem dX0_choose_48 : decode cX0_choose 48 = .ok (.iload_n 1, 1) := by decide +kernel
theorem dX0_choose_49 : decode cX0_choose 49 = .ok (.invokevirtual 93, 3) := by decide +kernel
theorem dX0_choose_52 : decode cX0_choose 52 = .ok (.iinc 2 1, 3) := by decide +kernel
theorem dX0_choose_55 : decode cX0_choose 55 = .ok (.goto (-27), 3) := by decide +kernel
theorem dX0_choose_58 : decode cX0_choose 58 = .ok (.return_, 1) := by decide +kernel
theorem dX0_firstOfLeast_0 : decode cX0_firstOfLeast 0 = .ok (.iconst 0, 1) := by decide +kernel
theorem dX0_firstOfLeast_1 : decode cX0_firstOfLeast 1 = .ok (.istore_n 3, 1) := by decide +kernel
theorem dX0_firstOfLeast_2 : decode cX0_firstOfLeast 2 = .ok (.sipush 20000, 3) := by decide +kernel
theorem dX0_firstOfLeast_5 : decode cX0_firstOfLeast 5 = .ok (.istore 4, 2) := by decide +kernel
theorem dX0_firstOfLeast_7 : decode cX0_firstOfLeast 7 = .ok (.iconst 0, 1) := by decide +kernel
theorem dX0_firstOfLeast_8 : decode cX0_firstOfLeast 8 = .ok (.istore 5, 2) := by decide +kernel
theorem dX0_firstOfLeast_10 : decode cX0_firstOfLeast 10 = .ok (.iload 5, 2) := by decide +kernel
theorem dX0_firstOfLeast_12 : decode cX0_firstOfLeast 12 = .ok (.aload_n 0, 1) := by decide +kernel
theorem dX0_firstOfLeast_13 : decode cX0_firstOfLeast 13 = .ok (.getfield 23, 3) := by decide +kernel
theorem dX0_firstOfLeast_16 : decode cX0_firstOfLeast 16 = .ok (.if_icmp .ge 51, 3) := by decide +kernel
theorem dX0_firstOfLeast_19 : decode cX0_firstOfLeast 19 = .ok (.aload_n 0, 1) := by decide +kernel
theorem dX0_firstOfLeast_20 : decode cX0_firstOfLeast 20 = .ok (.getfield 13, 3) := by decide +kernel
theorem dX0_firstOfLeast_23 : decode cX0_firstOfLeast 23 = .ok (.iload_n 1, 1) := by decide +kernel
theorem dX0_firstOfLeast_24 : decode cX0_firstOfLeast 24 = .ok (.aaload, 1) := by decide +kernel
theorem dX0_firstOfLeast_25 : decode cX0_firstOfLeast 25 = .ok (.iload 5, 2) := by decide +kernel
theorem dX0_firstOfLeast_27 : decode cX0_firstOfLeast 27 = .ok (.iaload, 1) := by decide +kernel
theorem dX0_firstOfLeast_28 : decode cX0_firstOfLeast 28 = .ok (.iload_n 2, 1) := by decide +kernel
theorem dX0_firstOfLeast_29 : decode cX0_firstOfLeast 29 = .ok (.bipush (-9), 2) := by decide +kernel
theorem dX0_firstOfLeast_31 : decode cX0_firstOfLeast 31 = .ok (.if_icmp .ne 7, 3) := by decide +kernel
theorem dX0_firstOfLeast_34 : decode cX0_firstOfLeast 34 = .ok (.iconst 0, 1) := by decide +kernel
theorem dX0_firstOfLeast_35 : decode cX0_firstOfLeast 35 = .ok (.goto 9, 3) := by decide +kernel
theorem dX0_firstOfLeast_38 : decode cX0_firstOfLeast 38 = .ok (.iload_n 2, 1) := by decide +kernel
theorem dX0_firstOfLeast_39 : decode cX0_firstOfLeast 39 = .ok (.iload 5, 2) := by decide +kernel
theorem dX0_firstOfLeast_41 : decode cX0_firstOfLeast 41 = .ok (.invokestatic 97, 3) := by decide +kernel
theorem dX0_firstOfLeast_44 : decode cX0_firstOfLeast 44 = .ok (.iadd, 1) := by decide +kernel
theorem dX0_firstOfLeast_45 : decode cX0_firstOfLeast 45 = .ok (.istore 6, 2) := by decide +kernel
theorem dX0_firstOfLeast_47 : decode cX0_firstOfLeast 47 = .ok (.iload 6, 2) := by decide +kernel
theorem dX0_firstOfLeast_49 : decode cX0_firstOfLeast 49 = .ok (.iload 4, 2) := by decide +kernel
theorem dX0_firstOfLeast_51 : decode cX0_firstOfLeast 51 = .ok (.if_icmp .ge 10, 3) := by decide +kernel
theorem dX0_firstOfLeast_54 : decode cX0_firstOfLeast 54 = .ok (.iload 5, 2) := by decide +kernel
theorem dX0_firstOfLeast_56 : decode cX0_firstOfLeast 56 = .ok (.istore_n 3, 1) := by decide +kernel
theorem dX0_firstOfLeast_57 : decode cX0_firstOfLeast 57 = .ok (.iload 6, 2) := by decide +kernel
theorem dX0_firstOfLeast_59 : decode cX0_firstOfLeast 59 = .ok (.istore 4, 2) := by decide +kernel
theorem dX0_firstOfLeast_61 : decode cX0_firstOfLeast 61 = .ok (.iinc 5 1, 3) := by decide +kernel
theorem dX0_firstOfLeast_64 : decode cX0_firstOfLeast 64 = .ok (.goto (-54), 3) := by decide +kernel
theorem dX0_firstOfLeast_67 : decode cX0_firstOfLeast 67 = .ok (.iload_n 3, 1) := by decide +kernel
theorem dX0_firstOfLeast_68 : decode cX0_firstOfLeast 68 = .ok (.ireturn, 1) := by decide +kernel
theorem dX0_changesBetween_0 : decode cX0_changesBetween 0 = .ok (.iconst 0, 1) := by decide +kernel
theorem dX0_changesBetween_1 : decode cX0_changesBetween 1 = .ok (.istore_n 2, 1) := by decide +kernel
theorem dX0_changesBetween_2 : decode cX0_changesBetween 2 = .ok (.iload_n 0, 1) := by decide +kernel
theorem dX0_changesBetween_3 : decode cX0_changesBetween 3 = .ok (.istore_n 3, 1) := by decide +kernel
theorem dX0_changesBetween_4 : decode cX0_changesBetween 4 = .ok (.iload_n 1, 1) := by decide +kernel
theorem dX0_changesBetween_5 : decode cX0_changesBetween 5 = .ok (.istore 4, 2) := by decide +kernel
theorem dX0_changesBetween_7 : decode cX0_changesBetween 7 = .ok (.iconst 0, 1) := by decide +kernel
theorem dX0_changesBetween_8 : decode cX0_changesBetween 8 = .ok (.istore 5, 2) := by decide +kernel
theorem dX0_changesBetween_10 : decode cX0_changesBetween 10 = .ok (.iload 5, 2) := by decide +kernel
theorem dX0_changesBetween_12 : decode cX0_changesBetween 12 = .ok (.iconst 4, 1) := by decide +kernel
theorem dX0_changesBetween_13 : decode cX0_changesBetween 13 = .ok (.if_icmp .ge 32, 3) := by decide +kernel
theorem dX0_changesBetween_16 : decode cX0_changesBetween 16 = .ok (.iload_n 3, 1) := by decide +kernel
theorem dX0_changesBetween_17 : decode cX0_changesBetween 17 = .ok (.iconst 3, 1) := by decide +kernel
theorem dX0_changesBetween_18 : decode cX0_changesBetween 18 = .ok (.irem, 1) := by decide +kernel
theorem dX0_changesBetween_19 : decode cX0_changesBetween 19 = .ok (.iload 4, 2) := by decide +kernel
theorem dX0_changesBetween_21 : decode cX0_changesBetween 21 = .ok (.iconst 3, 1) := by decide +kernel
theorem dX0_changesBetween_22 : decode cX0_changesBetween 22 = .ok (.irem, 1) := by decide +kernel
theorem dX0_changesBetween_23 : decode cX0_changesBetween 23 = .ok (.if_icmp .eq 6, 3) := by decide +kernel
theorem dX0_changesBetween_26 : decode cX0_changesBetween 26 = .ok (.iinc 2 1, 3) := by decide +kernel
theorem dX0_changesBetween_29 : decode cX0_changesBetween 29 = .ok (.iload_n 3, 1) := by decide +kernel
theorem dX0_changesBetween_30 : decode cX0_changesBetween 30 = .ok (.iconst 3, 1) := by decide +kernel
theorem dX0_changesBetween_31 : decode cX0_changesBetween 31 = .ok (.idiv, 1) := by decide +kernel
theorem dX0_changesBetween_32 : decode cX0_changesBetween 32 = .ok (.istore_n 3, 1) := by decide +kernel
theorem dX0_changesBetween_33 : decode cX0_changesBetween 33 = .ok (.iload 4, 2) := by decide +kernel
theorem dX0_changesBetween_35 : decode cX0_changesBetween 35 = .ok (.iconst 3, 1) := by decide +kernel
theorem dX0_changesBetween_36 : decode cX0_changesBetween 36 = .ok (.idiv, 1) := by decide +kernel
theorem dX0_changesBetween_37 : decode cX0_changesBetween 37 = .ok (.istore 4, 2) := by decide +kernel
theorem dX0_changesBetween_39 : decode cX0_changesBetween 39 = .ok (.iinc 5 1, 3) := by decide +kernel
theorem dX0_changesBetween_42 : decode cX0_changesBetween 42 = .ok (.goto (-32), 3) := by decide +kernel
theorem dX0_changesBetween_45 : decode cX0_changesBetween 45 = .ok (.iload_n 2, 1) := by decide +kernel
theorem dX0_changesBetween_46 : decode cX0_changesBetween 46 = .ok (.ireturn, 1) := by decide +kernel
theorem dX0_write_0 : decode cX0_write 0 = .ok (.iload_n 2, 1) := by decide +kernel
theorem dX0_write_1 : decode cX0_write 1 = .ok (.istore_n 3, 1) := by decide +kernel
theorem dX0_write_2 : decode cX0_write 2 = .ok (.aload_n 0, 1) := by decide +kernel
theorem dX0_write_3 : decode cX0_write 3 = .ok (.getfield 36, 3) := by decide +kernel
theorem dX0_write_6 : decode cX0_write 6 = .ok (.getfield 40, 3) := by decide +kernel
theorem dX0_write_9 : decode cX0_write 9 = .ok (.iconst 1, 1) := by decide +kernel
theorem dX0_write_10 : decode cX0_write 10 = .ok (.isub, 1) := by decide +kernel
theorem dX0_write_11 : decode cX0_write 11 = .ok (.istore 4, 2) := by decide +kernel
theorem dX0_write_13 : decode cX0_write 13 = .ok (.iload 4, 2) := by decide +kernel
theorem dX0_write_15 : decode cX0_write 15 = .ok (.ifCond .lt 33, 3) := by decide +kernel
theorem dX0_write_18 : decode cX0_write 18 = .ok (.aload_n 0, 1) := by decide +kernel
theorem dX0_write_19 : decode cX0_write 19 = .ok (.getfield 27, 3) := by decide +kernel
theorem dX0_write_22 : decode cX0_write 22 = .ok (.iload_n 1, 1) := by decide +kernel
theorem dX0_write_23 : decode cX0_write 23 = .ok (.aload_n 0, 1) := by decide +kernel
theorem dX0_write_24 : decode cX0_write 24 = .ok (.getfield 36, 3) := by decide +kernel
theorem dX0_write_27 : decode cX0_write 27 = .ok (.getfield 40, 3) := by decide +kernel
theorem dX0_write_30 : decode cX0_write 30 = .ok (.imul, 1) := by decide +kernel
theorem dX0_write_31 : decode cX0_write 31 = .ok (.iload 4, 2) := by decide +kernel
theorem dX0_write_33 : decode cX0_write 33 = .ok (.iadd, 1) := by decide +kernel
theorem dX0_write_34 : decode cX0_write 34 = .ok (.iload_n 3, 1) := by decide +kernel
theorem dX0_write_35 : decode cX0_write 35 = .ok (.iconst 3, 1) := by decide +kernel
theorem dX0_write_36 : decode cX0_write 36 = .ok (.irem, 1) := by decide +kernel
theorem dX0_write_37 : decode cX0_write 37 = .ok (.iastore, 1) := by decide +kernel
theorem dX0_write_38 : decode cX0_write 38 = .ok (.iload_n 3, 1) := by decide +kernel
theorem dX0_write_39 : decode cX0_write 39 = .ok (.iconst 3, 1) := by decide +kernel
theorem dX0_write_40 : decode cX0_write 40 = .ok (.idiv, 1) := by decide +kernel
theorem dX0_write_41 : decode cX0_write 41 = .ok (.istore_n 3, 1) := by decide +kernel
theorem dX0_write_42 : decode cX0_write 42 = .ok (.iinc 4 (-1), 3) := by decide +kernel
theorem dX0_write_45 : decode cX0_write 45 = .ok (.goto (-32), 3) := by decide +kernel
theorem dX0_write_48 : decode cX0_write 48 = .ok (.return_, 1) := by decide +kernel
theorem dX1_init_0 : decode cX1_init 0 = .ok (.aload_n 0, 1) := by decide +kernel
theorem dX1_init_1 : decode cX1_init 1 = .ok (.invokespecial 3, 3) := by decide +kernel
theorem dX1_init_4 : decode cX1_init 4 = .ok (.aload_n 0, 1) := by decide +kernel
theorem dX1_init_5 : decode cX1_init 5 = .ok (.bipush 8, 2) := by decide +kernel
theorem dX1_init_7 : decode cX1_init 7 = .ok (.newarray .int, 2) := by decide +kernel
theorem dX1_init_9 : decode cX1_init 9 = .ok (.putfield 9, 3) := by decide +kernel
theorem dX1_init_12 : decode cX1_init 12 = .ok (.aload_n 0, 1) := by decide +kernel
theorem dX1_init_13 : decode cX1_init 13 = .ok (.bipush 8, 2) := by decide +kernel
theorem dX1_init_15 : decode cX1_init 15 = .ok (.newarray .int, 2) := by decide +kernel
theorem dX1_init_17 : decode cX1_init 17 = .ok (.putfield 15, 3) := by decide +kernel
theorem dX1_init_20 : decode cX1_init 20 = .ok (.aload_n 0, 1) := by decide +kernel
theorem dX1_init_21 : decode cX1_init 21 = .ok (.bipush 8, 2) := by decide +kernel
theorem dX1_init_23 : decode cX1_init 23 = .ok (.newarray .int, 2) := by decide +kernel
theorem dX1_init_25 : decode cX1_init 25 = .ok (.putfield 18, 3) := by decide +kernel
theorem dX1_init_28 : decode cX1_init 28 = .ok (.aload_n 0, 1) := by decide +kernel
theorem dX1_init_29 : decode cX1_init 29 = .ok (.iconst 0, 1) := by decide +kernel
theorem dX1_init_30 : decode cX1_init 30 = .ok (.putfield 21, 3) := by decide +kernel
theorem dX1_init_33 : decode cX1_init 33 = .ok (.return_, 1) := by decide +kernel
theorem dX1_keep_0 : decode cX1_keep 0 = .ok (.aload_n 0, 1) := by decide +kernel
theorem dX1_keep_1 : decode cX1_keep 1 = .ok (.getfield 9, 3) := by decide +kernel
theorem dX1_keep_4 : decode cX1_keep 4 = .ok (.aload_n 0, 1) := by decide +kernel
theorem dX1_keep_5 : decode cX1_keep 5 = .ok (.getfield 21, 3) := by decide +kernel
theorem dX1_keep_8 : decode cX1_keep 8 = .ok (.iload_n 1, 1) := by decide +kernel
theorem dX1_keep_9 : decode cX1_keep 9 = .ok (.iastore, 1) := by decide +kernel
theorem dX1_keep_10 : decode cX1_keep 10 = .ok (.aload_n 0, 1) := by decide +kernel
theorem dX1_keep_11 : decode cX1_keep 11 = .ok (.getfield 15, 3) := by decide +kernel
theorem dX1_keep_14 : decode cX1_keep 14 = .ok (.aload_n 0, 1) := by decide +kernel
theorem dX1_keep_15 : decode cX1_keep 15 = .ok (.getfield 21, 3) := by decide +kernel
theorem dX1_keep_18 : decode cX1_keep 18 = .ok (.iload_n 2, 1) := by decide +kernel
theorem dX1_keep_19 : decode cX1_keep 19 = .ok (.iastore, 1) := by decide +kernel
theorem dX1_keep_20 : decode cX1_keep 20 = .ok (.aload_n 0, 1) := by decide +kernel
theorem dX1_keep_21 : decode cX1_keep 21 = .ok (.getfield 18, 3) := by decide +kernel
theorem dX1_keep_24 : decode cX1_keep 24 = .ok (.aload_n 0, 1) := by decide +kernel
theorem dX1_keep_25 : decode cX1_keep 25 = .ok (.getfield 21, 3) := by decide +kernel
theorem dX1_keep_28 : decode cX1_keep 28 = .ok (.iload_n 3, 1) := by decide +kernel
theorem dX1_keep_29 : decode cX1_keep 29 = .ok (.iastore, 1) := by decide +kernel
theorem dX1_keep_30 : decode cX1_keep 30 = .ok (.aload_n 0, 1) := by decide +kernel
theorem dX1_keep_31 : decode cX1_keep 31 = .ok (.dup, 1) := by decide +kernel
theorem dX1_keep_32 : decode cX1_keep 32 = .ok (.getfield 21, 3) := by decide +kernel
theorem dX1_keep_35 : decode cX1_keep 35 = .ok (.iconst 1, 1) := by decide +kernel
theorem dX1_keep_36 : decode cX1_keep 36 = .ok (.iadd, 1) := by decide +kernel
theorem dX1_keep_37 : decode cX1_keep 37 = .ok (.putfield 21, 3) := by decide +kernel
theorem dX1_keep_40 : decode cX1_keep 40 = .ok (.aload_n 0, 1) := by decide +kernel
theorem dX1_keep_41 : decode cX1_keep 41 = .ok (.getfield 21, 3) := by decide +kernel
theorem dX1_keep_44 : decode cX1_keep 44 = .ok (.iconst 1, 1) := by decide +kernel
theorem dX1_keep_45 : decode cX1_keep 45 = .ok (.isub, 1) := by decide +kernel
theorem dX1_keep_46 : decode cX1_keep 46 = .ok (.ireturn, 1) := by decide +kernel
theorem dX1_areSo_0 : decode cX1_areSo 0 = .ok (.iconst 0, 1) := by decide +kernel
theorem dX1_areSo_1 : decode cX1_areSo 1 = .ok (.istore_n 2, 1) := by decide +kernel
theorem dX1_areSo_2 : decode cX1_areSo 2 = .ok (.iload_n 2, 1) := by decide +kernel
theorem dX1_areSo_3 : decode cX1_areSo 3 = .ok (.aload_n 0, 1) := by decide +kernel
theorem dX1_areSo_4 : decode cX1_areSo 4 = .ok (.getfield 21, 3) := by decide +kernel
theorem dX1_areSo_7 : decode cX1_areSo 7 = .ok (.if_icmp .ge 36, 3) := by decide +kernel
theorem dX1_areSo_10 : decode cX1_areSo 10 = .ok (.aload_n 1, 1) := by decide +kernel
theorem dX1_areSo_11 : decode cX1_areSo 11 = .ok (.aload_n 0, 1) := by decide +kernel
theorem dX1_areSo_12 : decode cX1_areSo 12 = .ok (.getfield 9, 3) := by decide +kernel
theorem dX1_areSo_15 : decode cX1_areSo 15 = .ok (.iload_n 2, 1) := by decide +kernel
theorem dX1_areSo_16 : decode cX1_areSo 16 = .ok (.iaload, 1) := by decide +kernel
theorem dX1_areSo_17 : decode cX1_areSo 17 = .ok (.aload_n 0, 1) := by decide +kernel
theorem dX1_areSo_18 : decode cX1_areSo 18 = .ok (.getfield 15, 3) := by decide +kernel
theorem dX1_areSo_21 : decode cX1_areSo 21 = .ok (.iload_n 2, 1) := by decide +kernel
theorem dX1_areSo_22 : decode cX1_areSo 22 = .ok (.iaload, 1) := by decide +kernel
theorem dX1_areSo_23 : decode cX1_areSo 23 = .ok (.invokevirtual 25, 3) := by decide +kernel
theorem dX1_areSo_26 : decode cX1_areSo 26 = .ok (.aload_n 0, 1) := by decide +kernel
theorem dX1_areSo_27 : decode cX1_areSo 27 = .ok (.getfield 18, 3) := by decide +kernel
theorem dX1_areSo_30 : decode cX1_areSo 30 = .ok (.iload_n 2, 1) := by decide +kernel
theorem dX1_areSo_31 : decode cX1_areSo 31 = .ok (.iaload, 1) := by decide +kernel
theorem dX1_areSo_32 : decode cX1_areSo 32 = .ok (.if_icmp .eq 5, 3) := by decide +kernel
theorem dX1_areSo_35 : decode cX1_areSo 35 = .ok (.iconst 0, 1) := by decide +kernel
theorem dX1_areSo_36 : decode cX1_areSo 36 = .ok (.ireturn, 1) := by decide +kernel
theorem dX1_areSo_37 : decode cX1_areSo 37 = .ok (.iinc 2 1, 3) := by decide +kernel
theorem dX1_areSo_40 : decode cX1_areSo 40 = .ok (.goto (-38), 3) := by decide +kernel
theorem dX1_areSo_43 : decode cX1_areSo 43 = .ok (.iconst 1, 1) := by decide +kernel
theorem dX1_areSo_44 : decode cX1_areSo 44 = .ok (.ireturn, 1) := by decide +kernel
theorem dX2_init_0 : decode cX2_init 0 = .ok (.aload_n 0, 1) := by decide +kernel
theorem dX2_init_1 : decode cX2_init 1 = .ok (.invokespecial 3, 3) := by decide +kernel
theorem dX2_init_4 : decode cX2_init 4 = .ok (.aload_n 0, 1) := by decide +kernel
theorem dX2_init_5 : decode cX2_init 5 = .ok (.bipush 32, 2) := by decide +kernel
theorem dX2_init_7 : decode cX2_init 7 = .ok (.newarray .int, 2) := by decide +kernel
theorem dX2_init_9 : decode cX2_init 9 = .ok (.putfield 9, 3) := by decide +kernel
theorem dX2_init_12 : decode cX2_init 12 = .ok (.aload_n 0, 1) := by decide +kernel
theorem dX2_init_13 : decode cX2_init 13 = .ok (.iconst 3, 1) := by decide +kernel
theorem dX2_init_14 : decode cX2_init 14 = .ok (.newarray .int, 2) := by decide +kernel
theorem dX2_init_16 : decode cX2_init 16 = .ok (.putfield 15, 3) := by decide +kernel
theorem dX2_init_19 : decode cX2_init 19 = .ok (.aload_n 0, 1) := by decide +kernel
theorem dX2_init_20 : decode cX2_init 20 = .ok (.aload_n 1, 1) := by decide +kernel
theorem dX2_init_21 : decode cX2_init 21 = .ok (.putfield 18, 3) := by decide +kernel
theorem dX2_init_24 : decode cX2_init 24 = .ok (.return_, 1) := by decide +kernel
theorem dX2_readFrom_0 : decode cX2_readFrom 0 = .ok (.aload_n 0, 1) := by decide +kernel
theorem dX2_readFrom_1 : decode cX2_readFrom 1 = .ok (.getfield 18, 3) := by decide +kernel
theorem dX2_readFrom_4 : decode cX2_readFrom 4 = .ok (.getfield 22, 3) := by decide +kernel
theorem dX2_readFrom_7 : decode cX2_readFrom 7 = .ok (.aload_n 0, 1) := by decide +kernel
theorem dX2_readFrom_8 : decode cX2_readFrom 8 = .ok (.getfield 18, 3) := by decide +kernel
theorem dX2_readFrom_11 : decode cX2_readFrom 11 = .ok (.getfield 28, 3) := by decide +kernel
theorem dX2_readFrom_14 : decode cX2_readFrom 14 = .ok (.imul, 1) := by decide +kernel
theorem dX2_readFrom_15 : decode cX2_readFrom 15 = .ok (.istore_n 3, 1) := by decide +kernel
theorem dX2_readFrom_16 : decode cX2_readFrom 16 = .ok (.iconst 0, 1) := by decide +kernel
theorem dX2_readFrom_17 : decode cX2_readFrom 17 = .ok (.istore 4, 2) := by decide +kernel
theorem dX2_readFrom_19 : decode cX2_readFrom 19 = .ok (.iload 4, 2) := by decide +kernel
theorem dX2_readFrom_21 : decode cX2_readFrom 21 = .ok (.iload_n 3, 1) := by decide +kernel
theorem dX2_readFrom_22 : decode cX2_readFrom 22 = .ok (.if_icmp .ge 36, 3) := by decide +kernel
theorem dX2_readFrom_25 : decode cX2_readFrom 25 = .ok (.aload_n 1, 1) := by decide +kernel
theorem dX2_readFrom_26 : decode cX2_readFrom 26 = .ok (.iload_n 2, 1) := by decide +kernel
theorem dX2_readFrom_27 : decode cX2_readFrom 27 = .ok (.iload 4, 2) := by decide +kernel
theorem dX2_readFrom_29 : decode cX2_readFrom 29 = .ok (.iadd, 1) := by decide +kernel
theorem dX2_readFrom_30 : decode cX2_readFrom 30 = .ok (.iaload, 1) := by decide +kernel
theorem dX2_readFrom_31 : decode cX2_readFrom 31 = .ok (.invokestatic 31, 3) := by decide +kernel
theorem dX2_readFrom_34 : decode cX2_readFrom 34 = .ok (.ifCond .eq 5, 3) := by decide +kernel
theorem dX2_readFrom_37 : decode cX2_readFrom 37 = .ok (.iconst 0, 1) := by decide +kernel
theorem dX2_readFrom_38 : decode cX2_readFrom 38 = .ok (.ireturn, 1) := by decide +kernel
theorem dX2_readFrom_39 : decode cX2_readFrom 39 = .ok (.aload_n 0, 1) := by decide +kernel
theorem dX2_readFrom_40 : decode cX2_readFrom 40 = .ok (.getfield 9, 3) := by decide +kernel
theorem dX2_readFrom_43 : decode cX2_readFrom 43 = .ok (.iload 4, 2) := by decide +kernel
theorem dX2_readFrom_45 : decode cX2_readFrom 45 = .ok (.aload_n 1, 1) := by decide +kernel
theorem dX2_readFrom_46 : decode cX2_readFrom 46 = .ok (.iload_n 2, 1) := by decide +kernel
theorem dX2_readFrom_47 : decode cX2_readFrom 47 = .ok (.iload 4, 2) := by decide +kernel
theorem dX2_readFrom_49 : decode cX2_readFrom 49 = .ok (.iadd, 1) := by decide +kernel
theorem dX2_readFrom_50 : decode cX2_readFrom 50 = .ok (.iaload, 1) := by decide +kernel
theorem dX2_readFrom_51 : decode cX2_readFrom 51 = .ok (.iastore, 1) := by decide +kernel
theorem dX2_readFrom_52 : decode cX2_readFrom 52 = .ok (.iinc 4 1, 3) := by decide +kernel
theorem dX2_readFrom_55 : decode cX2_readFrom 55 = .ok (.goto (-36), 3) := by decide +kernel
theorem dX2_readFrom_58 : decode cX2_readFrom 58 = .ok (.iconst 1, 1) := by decide +kernel
theorem dX2_readFrom_59 : decode cX2_readFrom 59 = .ok (.ireturn, 1) := by decide +kernel
theorem dX2_classOf_0 : decode cX2_classOf 0 = .ok (.aload_n 0, 1) := by decide +kernel
theorem dX2_classOf_1 : decode cX2_classOf 1 = .ok (.getfield 9, 3) := by decide +kernel
theorem dX2_classOf_4 : decode cX2_classOf 4 = .ok (.iload_n 2, 1) := by decide +kernel
theorem dX2_classOf_5 : decode cX2_classOf 5 = .ok (.aload_n 0, 1) := by decide +kernel
theorem dX2_classOf_6 : decode cX2_classOf 6 = .ok (.getfield 18, 3) := by decide +kernel
theorem dX2_classOf_9 : decode cX2_classOf 9 = .ok (.getfield 28, 3) := by decide +kernel
theorem dX2_classOf_12 : decode cX2_classOf 12 = .ok (.imul, 1) := by decide +kernel
theorem dX2_classOf_13 : decode cX2_classOf 13 = .ok (.iload_n 1, 1) := by decide +kernel
theorem dX2_classOf_14 : decode cX2_classOf 14 = .ok (.iadd, 1) := by decide +kernel
theorem dX2_classOf_15 : decode cX2_classOf 15 = .ok (.iaload, 1) := by decide +kernel
theorem dX2_classOf_16 : decode cX2_classOf 16 = .ok (.ireturn, 1) := by decide +kernel
theorem dX2_firstWrong_0 : decode cX2_firstWrong 0 = .ok (.iconst 0, 1) := by decide +kernel
theorem dX2_firstWrong_1 : decode cX2_firstWrong 1 = .ok (.istore_n 1, 1) := by decide +kernel
theorem dX2_firstWrong_2 : decode cX2_firstWrong 2 = .ok (.iload_n 1, 1) := by decide +kernel
theorem dX2_firstWrong_3 : decode cX2_firstWrong 3 = .ok (.aload_n 0, 1) := by decide +kernel
theorem dX2_firstWrong_4 : decode cX2_firstWrong 4 = .ok (.getfield 18, 3) := by decide +kernel
theorem dX2_firstWrong_7 : decode cX2_firstWrong 7 = .ok (.getfield 22, 3) := by decide +kernel
theorem dX2_firstWrong_10 : decode cX2_firstWrong 10 = .ok (.if_icmp .ge 73, 3) := by decide +kernel
theorem dX2_firstWrong_13 : decode cX2_firstWrong 13 = .ok (.aload_n 0, 1) := by decide +kernel
theorem dX2_firstWrong_14 : decode cX2_firstWrong 14 = .ok (.getfield 15, 3) := by decide +kernel
theorem dX2_firstWrong_17 : decode cX2_firstWrong 17 = .ok (.iconst 0, 1) := by decide +kernel
theorem dX2_firstWrong_18 : decode cX2_firstWrong 18 = .ok (.invokestatic 35, 3) := by decide +kernel
theorem dX2_firstWrong_21 : decode cX2_firstWrong 21 = .ok (.iconst 0, 1) := by decide +kernel
theorem dX2_firstWrong_22 : decode cX2_firstWrong 22 = .ok (.istore_n 2, 1) := by decide +kernel
theorem dX2_firstWrong_23 : decode cX2_firstWrong 23 = .ok (.iload_n 2, 1) := by decide +kernel
theorem dX2_firstWrong_24 : decode cX2_firstWrong 24 = .ok (.aload_n 0, 1) := by decide +kernel
theorem dX2_firstWrong_25 : decode cX2_firstWrong 25 = .ok (.getfield 18, 3) := by decide +kernel
theorem dX2_firstWrong_28 : decode cX2_firstWrong 28 = .ok (.getfield 28, 3) := by decide +kernel
theorem dX2_firstWrong_31 : decode cX2_firstWrong 31 = .ok (.if_icmp .ge 46, 3) := by decide +kernel
theorem dX2_firstWrong_34 : decode cX2_firstWrong 34 = .ok (.aload_n 0, 1) := by decide +kernel
theorem dX2_firstWrong_35 : decode cX2_firstWrong 35 = .ok (.iload_n 2, 1) := by decide +kernel
theorem dX2_firstWrong_36 : decode cX2_firstWrong 36 = .ok (.iload_n 1, 1) := by decide +kernel
theorem dX2_firstWrong_37 : decode cX2_firstWrong 37 = .ok (.invokevirtual 41, 3) := by decide +kernel
theorem dX2_firstWrong_40 : decode cX2_firstWrong 40 = .ok (.istore_n 3, 1) := by decide +kernel
theorem dX2_firstWrong_41 : decode cX2_firstWrong 41 = .ok (.aload_n 0, 1) := by decide +kernel
theorem dX2_firstWrong_42 : decode cX2_firstWrong 42 = .ok (.getfield 15, 3) := by decide +kernel
theorem dX2_firstWrong_45 : decode cX2_firstWrong 45 = .ok (.iload_n 3, 1) := by decide +kernel
theorem dX2_firstWrong_46 : decode cX2_firstWrong 46 = .ok (.dup2, 1) := by decide +kernel
theorem dX2_firstWrong_47 : decode cX2_firstWrong 47 = .ok (.iaload, 1) := by decide +kernel
theorem dX2_firstWrong_48 : decode cX2_firstWrong 48 = .ok (.iconst 1, 1) := by decide +kernel
theorem dX2_firstWrong_49 : decode cX2_firstWrong 49 = .ok (.iadd, 1) := by decide +kernel
theorem dX2_firstWrong_50 : decode cX2_firstWrong 50 = .ok (.iastore, 1) := by decide +kernel
theorem dX2_firstWrong_51 : decode cX2_firstWrong 51 = .ok (.aload_n 0, 1) := by decide +kernel
theorem dX2_firstWrong_52 : decode cX2_firstWrong 52 = .ok (.getfield 15, 3) := by decide +kernel
theorem dX2_firstWrong_55 : decode cX2_firstWrong 55 = .ok (.iload_n 3, 1) := by decide +kernel
theorem dX2_firstWrong_56 : decode cX2_firstWrong 56 = .ok (.iaload, 1) := by decide +kernel
theorem dX2_firstWrong_57 : decode cX2_firstWrong 57 = .ok (.aload_n 0, 1) := by decide +kernel
theorem dX2_firstWrong_58 : decode cX2_firstWrong 58 = .ok (.getfield 18, 3) := by decide +kernel
theorem dX2_firstWrong_61 : decode cX2_firstWrong 61 = .ok (.getfield 45, 3) := by decide +kernel
theorem dX2_firstWrong_64 : decode cX2_firstWrong 64 = .ok (.iload_n 3, 1) := by decide +kernel
theorem dX2_firstWrong_65 : decode cX2_firstWrong 65 = .ok (.iaload, 1) := by decide +kernel
theorem dX2_firstWrong_66 : decode cX2_firstWrong 66 = .ok (.if_icmp .le 5, 3) := by decide +kernel
theorem dX2_firstWrong_69 : decode cX2_firstWrong 69 = .ok (.iload_n 1, 1) := by decide +kernel
theorem dX2_firstWrong_70 : decode cX2_firstWrong 70 = .ok (.ireturn, 1) := by decide +kernel
theorem dX2_firstWrong_71 : decode cX2_firstWrong 71 = .ok (.iinc 2 1, 3) := by decide +kernel
theorem dX2_firstWrong_74 : decode cX2_firstWrong 74 = .ok (.goto (-51), 3) := by decide +kernel
theorem dX2_firstWrong_77 : decode cX2_firstWrong 77 = .ok (.iinc 1 1, 3) := by decide +kernel
theorem dX2_firstWrong_80 : decode cX2_firstWrong 80 = .ok (.goto (-78), 3) := by decide +kernel
theorem dX2_firstWrong_83 : decode cX2_firstWrong 83 = .ok (.bipush (-9), 2) := by decide +kernel
theorem dX2_firstWrong_85 : decode cX2_firstWrong 85 = .ok (.ireturn, 1) := by decide +kernel
theorem dX2_countChanges_0 : decode cX2_countChanges 0 = .ok (.iconst 0, 1) := by decide +kernel
theorem dX2_countChanges_1 : decode cX2_countChanges 1 = .ok (.istore_n 1, 1) := by decide +kernel
theorem dX2_countChanges_2 : decode cX2_countChanges 2 = .ok (.iconst 1, 1) := by decide +kernel
theorem dX2_countChanges_3 : decode cX2_countChanges 3 = .ok (.istore_n 2, 1) := by decide +kernel
theorem dX2_countChanges_4 : decode cX2_countChanges 4 = .ok (.iload_n 2, 1) := by decide +kernel
theorem dX2_countChanges_5 : decode cX2_countChanges 5 = .ok (.aload_n 0, 1) := by decide +kernel
theorem dX2_countChanges_6 : decode cX2_countChanges 6 = .ok (.getfield 18, 3) := by decide +kernel
theorem dX2_countChanges_9 : decode cX2_countChanges 9 = .ok (.getfield 22, 3) := by decide +kernel
theorem dX2_countChanges_12 : decode cX2_countChanges 12 = .ok (.if_icmp .ge 48, 3) := by decide +kernel
theorem dX2_countChanges_15 : decode cX2_countChanges 15 = .ok (.iconst 0, 1) := by decide +kernel
theorem dX2_countChanges_16 : decode cX2_countChanges 16 = .ok (.istore_n 3, 1) := by decide +kernel
theorem dX2_countChanges_17 : decode cX2_countChanges 17 = .ok (.iload_n 3, 1) := by decide +kernel
theorem dX2_countChanges_18 : decode cX2_countChanges 18 = .ok (.aload_n 0, 1) := by decide +kernel
theorem dX2_countChanges_19 : decode cX2_countChanges 19 = .ok (.getfield 18, 3) := by decide +kernel
theorem dX2_countChanges_22 : decode cX2_countChanges 22 = .ok (.getfield 28, 3) := by decide +kernel
theorem dX2_countChanges_25 : decode cX2_countChanges 25 = .ok (.if_icmp .ge 29, 3) := by decide +kernel
theorem dX2_countChanges_28 : decode cX2_countChanges 28 = .ok (.aload_n 0, 1) := by decide +kernel
theorem dX2_countChanges_29 : decode cX2_countChanges 29 = .ok (.iload_n 3, 1) := by decide +kernel
theorem dX2_countChanges_30 : decode cX2_countChanges 30 = .ok (.iload_n 2, 1) := by decide +kernel
theorem dX2_countChanges_31 : decode cX2_countChanges 31 = .ok (.invokevirtual 41, 3) := by decide +kernel
theorem dX2_countChanges_34 : decode cX2_countChanges 34 = .ok (.aload_n 0, 1) := by decide +kernel
theorem dX2_countChanges_35 : decode cX2_countChanges 35 = .ok (.iload_n 3, 1) := by decide +kernel
theorem dX2_countChanges_36 : decode cX2_countChanges 36 = .ok (.iload_n 2, 1) := by decide +kernel
theorem dX2_countChanges_37 : decode cX2_countChanges 37 = .ok (.iconst 1, 1) := by decide +kernel
theorem dX2_countChanges_38 : decode cX2_countChanges 38 = .ok (.isub, 1) := by decide +kernel
theorem dX2_countChanges_39 : decode cX2_countChanges 39 = .ok (.invokevirtual 41, 3) := by decide +kernel
theorem dX2_countChanges_42 : decode cX2_countChanges 42 = .ok (.if_icmp .eq 6, 3) := by decide +kernel
theorem dX2_countChanges_45 : decode cX2_countChanges 45 = .ok (.iinc 1 1, 3) := by decide +kernel
theorem dX2_countChanges_48 : decode cX2_countChanges 48 = .ok (.iinc 3 1, 3) := by decide +kernel
theorem dX2_countChanges_51 : decode cX2_countChanges 51 = .ok (.goto (-34), 3) := by decide +kernel
theorem dX2_countChanges_54 : decode cX2_countChanges 54 = .ok (.iinc 2 1, 3) := by decide +kernel
theorem dX2_countChanges_57 : decode cX2_countChanges 57 = .ok (.goto (-53), 3) := by decide +kernel
theorem dX2_countChanges_60 : decode cX2_countChanges 60 = .ok (.iload_n 1, 1) := by decide +kernel
theorem dX2_countChanges_61 : decode cX2_countChanges 61 = .ok (.ireturn, 1) := by decide +kernel
theorem dX2_countLow_0 : decode cX2_countLow 0 = .ok (.iconst 0, 1) := by decide +kernel
theorem dX2_countLow_1 : decode cX2_countLow 1 = .ok (.istore_n 1, 1) := by decide +kernel
theorem dX2_countLow_2 : decode cX2_countLow 2 = .ok (.iconst 0, 1) := by decide +kernel
theorem dX2_countLow_3 : decode cX2_countLow 3 = .ok (.istore_n 2, 1) := by decide +kernel
theorem dX2_countLow_4 : decode cX2_countLow 4 = .ok (.iload_n 2, 1) := by decide +kernel
theorem dX2_countLow_5 : decode cX2_countLow 5 = .ok (.aload_n 0, 1) := by decide +kernel
theorem dX2_countLow_6 : decode cX2_countLow 6 = .ok (.getfield 18, 3) := by decide +kernel
theorem dX2_countLow_9 : decode cX2_countLow 9 = .ok (.getfield 22, 3) := by decide +kernel
theorem dX2_countLow_12 : decode cX2_countLow 12 = .ok (.if_icmp .ge 51, 3) := by decide +kernel
theorem dX2_countLow_15 : decode cX2_countLow 15 = .ok (.iconst 0, 1) := by decide +kernel
theorem dX2_countLow_16 : decode cX2_countLow 16 = .ok (.istore_n 3, 1) := by decide +kernel
theorem dX2_countLow_17 : decode cX2_countLow 17 = .ok (.iload_n 3, 1) := by decide +kernel
theorem dX2_countLow_18 : decode cX2_countLow 18 = .ok (.aload_n 0, 1) := by decide +kernel
theorem dX2_countLow_19 : decode cX2_countLow 19 = .ok (.getfield 18, 3) := by decide +kernel
theorem dX2_countLow_22 : decode cX2_countLow 22 = .ok (.getfield 28, 3) := by decide +kernel
theorem dX2_countLow_25 : decode cX2_countLow 25 = .ok (.if_icmp .ge 32, 3) := by decide +kernel
theorem dX2_countLow_28 : decode cX2_countLow 28 = .ok (.iload_n 1, 1) := by decide +kernel
theorem dX2_countLow_29 : decode cX2_countLow 29 = .ok (.iconst 0, 1) := by decide +kernel
theorem dX2_countLow_30 : decode cX2_countLow 30 = .ok (.aload_n 0, 1) := by decide +kernel
theorem dX2_countLow_31 : decode cX2_countLow 31 = .ok (.iload_n 3, 1) := by decide +kernel
theorem dX2_countLow_32 : decode cX2_countLow 32 = .ok (.iload_n 2, 1) := by decide +kernel
theorem dX2_countLow_33 : decode cX2_countLow 33 = .ok (.invokevirtual 41, 3) := by decide +kernel
theorem dX2_countLow_36 : decode cX2_countLow 36 = .ok (.aload_n 0, 1) := by decide +kernel
theorem dX2_countLow_37 : decode cX2_countLow 37 = .ok (.getfield 18, 3) := by decide +kernel
theorem dX2_countLow_40 : decode cX2_countLow 40 = .ok (.iload_n 3, 1) := by decide +kernel
theorem dX2_countLow_41 : decode cX2_countLow 41 = .ok (.iload_n 2, 1) := by decide +kernel
theorem dX2_countLow_42 : decode cX2_countLow 42 = .ok (.invokevirtual 48, 3) := by decide +kernel
theorem dX2_countLow_45 : decode cX2_countLow 45 = .ok (.isub, 1) := by decide +kernel
theorem dX2_countLow_46 : decode cX2_countLow 46 = .ok (.invokestatic 51, 3) := by decide +kernel
theorem dX2_countLow_49 : decode cX2_countLow 49 = .ok (.iadd, 1) := by decide +kernel
theorem dX2_countLow_50 : decode cX2_countLow 50 = .ok (.istore_n 1, 1) := by decide +kernel
theorem dX2_countLow_51 : decode cX2_countLow 51 = .ok (.iinc 3 1, 3) := by decide +kernel
theorem dX2_countLow_54 : decode cX2_countLow 54 = .ok (.goto (-37), 3) := by decide +kernel
theorem dX2_countLow_57 : decode cX2_countLow 57 = .ok (.iinc 2 1, 3) := by decide +kernel
theorem dX2_countLow_60 : decode cX2_countLow 60 = .ok (.goto (-56), 3) := by decide +kernel
theorem dX2_countLow_63 : decode cX2_countLow 63 = .ok (.iload_n 1, 1) := by decide +kernel
theorem dX2_countLow_64 : decode cX2_countLow 64 = .ok (.ireturn, 1) := by decide +kernel
theorem dX2_countAbove_0 : decode cX2_countAbove 0 = .ok (.iconst 0, 1) := by decide +kernel
theorem dX2_countAbove_1 : decode cX2_countAbove 1 = .ok (.istore_n 1, 1) := by decide +kernel
theorem dX2_countAbove_2 : decode cX2_countAbove 2 = .ok (.iconst 0, 1) := by decide +kernel
theorem dX2_countAbove_3 : decode cX2_countAbove 3 = .ok (.istore_n 2, 1) := by decide +kernel
theorem dX2_countAbove_4 : decode cX2_countAbove 4 = .ok (.iload_n 2, 1) := by decide +kernel
theorem dX2_countAbove_5 : decode cX2_countAbove 5 = .ok (.aload_n 0, 1) := by decide +kernel
theorem dX2_countAbove_6 : decode cX2_countAbove 6 = .ok (.getfield 18, 3) := by decide +kernel
theorem dX2_countAbove_9 : decode cX2_countAbove 9 = .ok (.getfield 28, 3) := by decide +kernel
theorem dX2_countAbove_12 : decode cX2_countAbove 12 = .ok (.if_icmp .ge 17, 3) := by decide +kernel
theorem dX2_countAbove_15 : decode cX2_countAbove 15 = .ok (.iload_n 1, 1) := by decide +kernel
theorem dX2_countAbove_16 : decode cX2_countAbove 16 = .ok (.aload_n 0, 1) := by decide +kernel
theorem dX2_countAbove_17 : decode cX2_countAbove 17 = .ok (.iload_n 2, 1) := by decide +kernel
theorem dX2_countAbove_18 : decode cX2_countAbove 18 = .ok (.invokevirtual 56, 3) := by decide +kernel
theorem dX2_countAbove_21 : decode cX2_countAbove 21 = .ok (.iadd, 1) := by decide +kernel
theorem dX2_countAbove_22 : decode cX2_countAbove 22 = .ok (.istore_n 1, 1) := by decide +kernel
theorem dX2_countAbove_23 : decode cX2_countAbove 23 = .ok (.iinc 2 1, 3) := by decide +kernel
theorem dX2_countAbove_26 : decode cX2_countAbove 26 = .ok (.goto (-22), 3) := by decide +kernel
theorem dX2_countAbove_29 : decode cX2_countAbove 29 = .ok (.iload_n 1, 1) := by decide +kernel
theorem dX2_countAbove_30 : decode cX2_countAbove 30 = .ok (.ireturn, 1) := by decide +kernel
theorem dX2_milesAbove_0 : decode cX2_milesAbove 0 = .ok (.iconst 0, 1) := by decide +kernel
theorem dX2_milesAbove_1 : decode cX2_milesAbove 1 = .ok (.istore_n 2, 1) := by decide +kernel
theorem dX2_milesAbove_2 : decode cX2_milesAbove 2 = .ok (.iconst 0, 1) := by decide +kernel
theorem dX2_milesAbove_3 : decode cX2_milesAbove 3 = .ok (.istore_n 3, 1) := by decide +kernel
theorem dX2_milesAbove_4 : decode cX2_milesAbove 4 = .ok (.iload_n 3, 1) := by decide +kernel
theorem dX2_milesAbove_5 : decode cX2_milesAbove 5 = .ok (.aload_n 0, 1) := by decide +kernel
theorem dX2_milesAbove_6 : decode cX2_milesAbove 6 = .ok (.getfield 18, 3) := by decide +kernel
theorem dX2_milesAbove_9 : decode cX2_milesAbove 9 = .ok (.getfield 22, 3) := by decide +kernel
theorem dX2_milesAbove_12 : decode cX2_milesAbove 12 = .ok (.if_icmp .ge 30, 3) := by decide +kernel
theorem dX2_milesAbove_15 : decode cX2_milesAbove 15 = .ok (.aload_n 0, 1) := by decide +kernel
theorem dX2_milesAbove_16 : decode cX2_milesAbove 16 = .ok (.iload_n 1, 1) := by decide +kernel
theorem dX2_milesAbove_17 : decode cX2_milesAbove 17 = .ok (.iload_n 3, 1) := by decide +kernel
theorem dX2_milesAbove_18 : decode cX2_milesAbove 18 = .ok (.invokevirtual 41, 3) := by decide +kernel
theorem dX2_milesAbove_21 : decode cX2_milesAbove 21 = .ok (.aload_n 0, 1) := by decide +kernel
theorem dX2_milesAbove_22 : decode cX2_milesAbove 22 = .ok (.getfield 18, 3) := by decide +kernel
theorem dX2_milesAbove_25 : decode cX2_milesAbove 25 = .ok (.iload_n 1, 1) := by decide +kernel
theorem dX2_milesAbove_26 : decode cX2_milesAbove 26 = .ok (.iload_n 3, 1) := by decide +kernel
theorem dX2_milesAbove_27 : decode cX2_milesAbove 27 = .ok (.invokevirtual 48, 3) := by decide +kernel
theorem dX2_milesAbove_30 : decode cX2_milesAbove 30 = .ok (.if_icmp .ge 6, 3) := by decide +kernel
theorem dX2_milesAbove_33 : decode cX2_milesAbove 33 = .ok (.iinc 2 1, 3) := by decide +kernel
theorem dX2_milesAbove_36 : decode cX2_milesAbove 36 = .ok (.iinc 3 1, 3) := by decide +kernel
theorem dX2_milesAbove_39 : decode cX2_milesAbove 39 = .ok (.goto (-35), 3) := by decide +kernel
theorem dX2_milesAbove_42 : decode cX2_milesAbove 42 = .ok (.iload_n 2, 1) := by decide +kernel
theorem dX2_milesAbove_43 : decode cX2_milesAbove 43 = .ok (.ireturn, 1) := by decide +kernel
theorem dX3_init_0 : decode cX3_init 0 = .ok (.aload_n 0, 1) := by decide +kernel
theorem dX3_init_1 : decode cX3_init 1 = .ok (.invokespecial 3, 3) := by decide +kernel
theorem dX3_init_4 : decode cX3_init 4 = .ok (.aload_n 0, 1) := by decide +kernel
theorem dX3_init_5 : decode cX3_init 5 = .ok (.bipush 60, 2) := by decide +kernel
theorem dX3_init_7 : decode cX3_init 7 = .ok (.newarray .int, 2) := by decide +kernel
theorem dX3_init_9 : decode cX3_init 9 = .ok (.putfield 9, 3) := by decide +kernel
theorem dX3_init_12 : decode cX3_init 12 = .ok (.aload_n 0, 1) := by decide +kernel
theorem dX3_init_13 : decode cX3_init 13 = .ok (.iconst (-1), 1) := by decide +kernel
theorem dX3_init_14 : decode cX3_init 14 = .ok (.putfield 15, 3) := by decide +kernel
theorem dX3_init_17 : decode cX3_init 17 = .ok (.aload_n 0, 1) := by decide +kernel
theorem dX3_init_18 : decode cX3_init 18 = .ok (.iconst 0, 1) := by decide +kernel
theorem dX3_init_19 : decode cX3_init 19 = .ok (.putfield 19, 3) := by decide +kernel
theorem dX3_init_22 : decode cX3_init 22 = .ok (.return_, 1) := by decide +kernel
theorem dX3_renew_0 : decode cX3_renew 0 = .ok (.aload_n 0, 1) := by decide +kernel
theorem dX3_renew_1 : decode cX3_renew 1 = .ok (.iload_n 1, 1) := by decide +kernel
theorem dX3_renew_2 : decode cX3_renew 2 = .ok (.putfield 15, 3) := by decide +kernel
theorem dX3_renew_5 : decode cX3_renew 5 = .ok (.aload_n 0, 1) := by decide +kernel
theorem dX3_renew_6 : decode cX3_renew 6 = .ok (.iload_n 2, 1) := by decide +kernel
theorem dX3_renew_7 : decode cX3_renew 7 = .ok (.putfield 19, 3) := by decide +kernel
theorem dX3_renew_10 : decode cX3_renew 10 = .ok (.aload_n 0, 1) := by decide +kernel
theorem dX3_renew_11 : decode cX3_renew 11 = .ok (.getfield 9, 3) := by decide +kernel
theorem dX3_renew_14 : decode cX3_renew 14 = .ok (.iconst 0, 1) := by decide +kernel
theorem dX3_renew_15 : decode cX3_renew 15 = .ok (.invokestatic 22, 3) := by decide +kernel
theorem dX3_renew_18 : decode cX3_renew 18 = .ok (.return_, 1) := by decide +kernel
theorem dX3_hasNothing_0 : decode cX3_hasNothing 0 = .ok (.aload_n 0, 1) := by decide +kernel
theorem dX3_hasNothing_1 : decode cX3_hasNothing 1 = .ok (.getfield 15, 3) := by decide +kernel
theorem dX3_hasNothing_4 : decode cX3_hasNothing 4 = .ok (.iconst (-1), 1) := by decide +kernel
theorem dX3_hasNothing_5 : decode cX3_hasNothing 5 = .ok (.if_icmp .ne 7, 3) := by decide +kernel
theorem dX3_hasNothing_8 : decode cX3_hasNothing 8 = .ok (.iconst 1, 1) := by decide +kernel
theorem dX3_hasNothing_9 : decode cX3_hasNothing 9 = .ok (.goto 4, 3) := by decide +kernel
theorem dX3_hasNothing_12 : decode cX3_hasNothing 12 = .ok (.iconst 0, 1) := by decide +kernel
theorem dX3_hasNothing_13 : decode cX3_hasNothing 13 = .ok (.ireturn, 1) := by decide +kernel
theorem dX3_noCell_0 : decode cX3_noCell 0 = .ok (.iload_n 1, 1) := by decide +kernel
theorem dX3_noCell_1 : decode cX3_noCell 1 = .ok (.ifCond .lt 11, 3) := by decide +kernel
theorem dX3_noCell_4 : decode cX3_noCell 4 = .ok (.iload_n 1, 1) := by decide +kernel
theorem dX3_noCell_5 : decode cX3_noCell 5 = .ok (.aload_n 0, 1) := by decide +kernel
theorem dX3_noCell_6 : decode cX3_noCell 6 = .ok (.getfield 19, 3) := by decide +kernel
theorem dX3_noCell_9 : decode cX3_noCell 9 = .ok (.if_icmp .lt 7, 3) := by decide +kernel
theorem dX3_noCell_12 : decode cX3_noCell 12 = .ok (.iconst 1, 1) := by decide +kernel
theorem dX3_noCell_13 : decode cX3_noCell 13 = .ok (.goto 4, 3) := by decide +kernel
theorem dX3_noCell_16 : decode cX3_noCell 16 = .ok (.iconst 0, 1) := by decide +kernel
theorem dX3_noCell_17 : decode cX3_noCell 17 = .ok (.ireturn, 1) := by decide +kernel
theorem dX3_lacksCells_0 : decode cX3_lacksCells 0 = .ok (.iload_n 1, 1) := by decide +kernel
theorem dX3_lacksCells_1 : decode cX3_lacksCells 1 = .ok (.ifCond .lt 21, 3) := by decide +kernel
theorem dX3_lacksCells_4 : decode cX3_lacksCells 4 = .ok (.iload_n 1, 1) := by decide +kernel
theorem dX3_lacksCells_5 : decode cX3_lacksCells 5 = .ok (.aload_n 0, 1) := by decide +kernel
theorem dX3_lacksCells_6 : decode cX3_lacksCells 6 = .ok (.getfield 19, 3) := by decide +kernel
theorem dX3_lacksCells_9 : decode cX3_lacksCells 9 = .ok (.if_icmp .gt 13, 3) := by decide +kernel
theorem dX3_lacksCells_12 : decode cX3_lacksCells 12 = .ok (.iload_n 2, 1) := by decide +kernel
theorem dX3_lacksCells_13 : decode cX3_lacksCells 13 = .ok (.aload_n 0, 1) := by decide +kernel
theorem dX3_lacksCells_14 : decode cX3_lacksCells 14 = .ok (.getfield 19, 3) := by decide +kernel
theorem dX3_lacksCells_17 : decode cX3_lacksCells 17 = .ok (.iload_n 1, 1) := by decide +kernel
theorem dX3_lacksCells_18 : decode cX3_lacksCells 18 = .ok (.isub, 1) := by decide +kernel
theorem dX3_lacksCells_19 : decode cX3_lacksCells 19 = .ok (.if_icmp .le 7, 3) := by decide +kernel
theorem dX3_lacksCells_22 : decode cX3_lacksCells 22 = .ok (.iconst 1, 1) := by decide +kernel
theorem dX3_lacksCells_23 : decode cX3_lacksCells 23 = .ok (.goto 4, 3) := by decide +kernel
theorem dX3_lacksCells_26 : decode cX3_lacksCells 26 = .ok (.iconst 0, 1) := by decide +kernel
theorem dX3_lacksCells_27 : decode cX3_lacksCells 27 = .ok (.ireturn, 1) := by decide +kernel
theorem dX3_cut_0 : decode cX3_cut 0 = .ok (.aload_n 0, 1) := by decide +kernel
theorem dX3_cut_1 : decode cX3_cut 1 = .ok (.getfield 15, 3) := by decide +kernel
theorem dX3_cut_4 : decode cX3_cut 4 = .ok (.ifCond .ne 6, 3) := by decide +kernel
theorem dX3_cut_7 : decode cX3_cut 7 = .ok (.iload_n 1, 1) := by decide +kernel
theorem dX3_cut_8 : decode cX3_cut 8 = .ok (.i2b, 1) := by decide +kernel
theorem dX3_cut_9 : decode cX3_cut 9 = .ok (.ireturn, 1) := by decide +kernel
theorem dX3_cut_10 : decode cX3_cut 10 = .ok (.aload_n 0, 1) := by decide +kernel
theorem dX3_cut_11 : decode cX3_cut 11 = .ok (.getfield 15, 3) := by decide +kernel
theorem dX3_cut_14 : decode cX3_cut 14 = .ok (.iconst 1, 1) := by decide +kernel
theorem dX3_cut_15 : decode cX3_cut 15 = .ok (.if_icmp .ne 8, 3) := by decide +kernel
theorem dX3_cut_18 : decode cX3_cut 18 = .ok (.iload_n 1, 1) := by decide +kernel
theorem dX3_cut_19 : decode cX3_cut 19 = .ok (.i2s, 1) := by decide +kernel
theorem dX3_cut_20 : decode cX3_cut 20 = .ok (.goto 4, 3) := by decide +kernel
theorem dX3_cut_23 : decode cX3_cut 23 = .ok (.iload_n 1, 1) := by decide +kernel
theorem dX3_cut_24 : decode cX3_cut 24 = .ok (.ireturn, 1) := by decide +kernel
theorem dX3_faultOfRow_0 : decode cX3_faultOfRow 0 = .ok (.aload_n 0, 1) := by decide +kernel
theorem dX3_faultOfRow_1 : decode cX3_faultOfRow 1 = .ok (.invokevirtual 28, 3) := by decide +kernel
theorem dX3_faultOfRow_4 : decode cX3_faultOfRow 4 = .ok (.ifCond .eq 5, 3) := by decide +kernel
theorem dX3_faultOfRow_7 : decode cX3_faultOfRow 7 = .ok (.iconst 1, 1) := by decide +kernel
theorem dX3_faultOfRow_8 : decode cX3_faultOfRow 8 = .ok (.ireturn, 1) := by decide +kernel
theorem dX3_faultOfRow_9 : decode cX3_faultOfRow 9 = .ok (.aload_n 0, 1) := by decide +kernel
theorem dX3_faultOfRow_10 : decode cX3_faultOfRow 10 = .ok (.getfield 15, 3) := by decide +kernel
theorem dX3_faultOfRow_13 : decode cX3_faultOfRow 13 = .ok (.iload_n 1, 1) := by decide +kernel
theorem dX3_faultOfRow_14 : decode cX3_faultOfRow 14 = .ok (.if_icmp .ne 7, 3) := by decide +kernel
theorem dX3_faultOfRow_17 : decode cX3_faultOfRow 17 = .ok (.iconst 0, 1) := by decide +kernel
theorem dX3_faultOfRow_18 : decode cX3_faultOfRow 18 = .ok (.goto 4, 3) := by decide +kernel
theorem dX3_faultOfRow_21 : decode cX3_faultOfRow 21 = .ok (.iconst 2, 1) := by decide +kernel
theorem dX3_faultOfRow_22 : decode cX3_faultOfRow 22 = .ok (.ireturn, 1) := by decide +kernel
theorem dX3_faultOfCells_0 : decode cX3_faultOfCells 0 = .ok (.aload_n 0, 1) := by decide +kernel
theorem dX3_faultOfCells_1 : decode cX3_faultOfCells 1 = .ok (.iload_n 1, 1) := by decide +kernel
theorem dX3_faultOfCells_2 : decode cX3_faultOfCells 2 = .ok (.invokevirtual 32, 3) := by decide +kernel
theorem dX3_faultOfCells_5 : decode cX3_faultOfCells 5 = .ok (.istore 4, 2) := by decide +kernel
theorem dX3_faultOfCells_7 : decode cX3_faultOfCells 7 = .ok (.iload 4, 2) := by decide +kernel
theorem dX3_faultOfCells_9 : decode cX3_faultOfCells 9 = .ok (.ifCond .eq 6, 3) := by decide +kernel
theorem dX3_faultOfCells_12 : decode cX3_faultOfCells 12 = .ok (.iload 4, 2) := by decide +kernel
theorem dX3_faultOfCells_14 : decode cX3_faultOfCells 14 = .ok (.ireturn, 1) := by decide +kernel
theorem dX3_faultOfCells_15 : decode cX3_faultOfCells 15 = .ok (.iload_n 3, 1) := by decide +kernel
theorem dX3_faultOfCells_16 : decode cX3_faultOfCells 16 = .ok (.ifCond .ge 5, 3) := by decide +kernel
theorem dX3_faultOfCells_19 : decode cX3_faultOfCells 19 = .ok (.iconst 4, 1) := by decide +kernel
theorem dX3_faultOfCells_20 : decode cX3_faultOfCells 20 = .ok (.ireturn, 1) := by decide +kernel
theorem dX3_faultOfCells_21 : decode cX3_faultOfCells 21 = .ok (.aload_n 0, 1) := by decide +kernel
theorem dX3_faultOfCells_22 : decode cX3_faultOfCells 22 = .ok (.iload_n 2, 1) := by decide +kernel
theorem dX3_faultOfCells_23 : decode cX3_faultOfCells 23 = .ok (.iload_n 3, 1) := by decide +kernel
theorem dX3_faultOfCells_24 : decode cX3_faultOfCells 24 = .ok (.invokevirtual 36, 3) := by decide +kernel
theorem dX3_faultOfCells_27 : decode cX3_faultOfCells 27 = .ok (.ifCond .eq 7, 3) := by decide +kernel
theorem dX3_faultOfCells_30 : decode cX3_faultOfCells 30 = .ok (.iconst 3, 1) := by decide +kernel
theorem dX3_faultOfCells_31 : decode cX3_faultOfCells 31 = .ok (.goto 4, 3) := by decide +kernel
theorem dX3_faultOfCells_34 : decode cX3_faultOfCells 34 = .ok (.iconst 0, 1) := by decide +kernel
theorem dX3_faultOfCells_35 : decode cX3_faultOfCells 35 = .ok (.ireturn, 1) := by decide +kernel
theorem dX4_firstFault_0 : decode cX4_firstFault 0 = .ok (.iconst 0, 1) := by decide +kernel
theorem dX4_firstFault_1 : decode cX4_firstFault 1 = .ok (.istore_n 3, 1) := by decide +kernel
theorem dX4_firstFault_2 : decode cX4_firstFault 2 = .ok (.iload_n 3, 1) := by decide +kernel
theorem dX4_firstFault_3 : decode cX4_firstFault 3 = .ok (.iconst 5, 1) := by decide +kernel
theorem dX4_firstFault_4 : decode cX4_firstFault 4 = .ok (.if_icmp .ge 28, 3) := by decide +kernel
theorem dX4_firstFault_7 : decode cX4_firstFault 7 = .ok (.iload_n 3, 1) := by decide +kernel
theorem dX4_firstFault_8 : decode cX4_firstFault 8 = .ok (.iload_n 2, 1) := by decide +kernel
theorem dX4_firstFault_9 : decode cX4_firstFault 9 = .ok (.if_icmp .ge 15, 3) := by decide +kernel
theorem dX4_firstFault_12 : decode cX4_firstFault 12 = .ok (.iload_n 3, 1) := by decide +kernel
theorem dX4_firstFault_13 : decode cX4_firstFault 13 = .ok (.aload_n 0, 1) := by decide +kernel
theorem dX4_firstFault_14 : decode cX4_firstFault 14 = .ok (.iload_n 1, 1) := by decide +kernel
theorem dX4_firstFault_15 : decode cX4_firstFault 15 = .ok (.iload_n 3, 1) := by decide +kernel
theorem dX4_firstFault_16 : decode cX4_firstFault 16 = .ok (.iadd, 1) := by decide +kernel
theorem dX4_firstFault_17 : decode cX4_firstFault 17 = .ok (.iaload, 1) := by decide +kernel
theorem dX4_firstFault_18 : decode cX4_firstFault 18 = .ok (.invokestatic 9, 3) := by decide +kernel
theorem dX4_firstFault_21 : decode cX4_firstFault 21 = .ok (.ifCond .ne 5, 3) := by decide +kernel
theorem dX4_firstFault_24 : decode cX4_firstFault 24 = .ok (.iload_n 3, 1) := by decide +kernel
theorem dX4_firstFault_25 : decode cX4_firstFault 25 = .ok (.ireturn, 1) := by decide +kernel
theorem dX4_firstFault_26 : decode cX4_firstFault 26 = .ok (.iinc 3 1, 3) := by decide +kernel
theorem dX4_firstFault_29 : decode cX4_firstFault 29 = .ok (.goto (-27), 3) := by decide +kernel
theorem dX4_firstFault_32 : decode cX4_firstFault 32 = .ok (.iload_n 3, 1) := by decide +kernel
theorem dX4_firstFault_33 : decode cX4_firstFault 33 = .ok (.bipush 13, 2) := by decide +kernel
theorem dX4_firstFault_35 : decode cX4_firstFault 35 = .ok (.if_icmp .ge 25, 3) := by decide +kernel
theorem dX4_firstFault_38 : decode cX4_firstFault 38 = .ok (.iload_n 3, 1) := by decide +kernel
theorem dX4_firstFault_39 : decode cX4_firstFault 39 = .ok (.iload_n 2, 1) := by decide +kernel
theorem dX4_firstFault_40 : decode cX4_firstFault 40 = .ok (.if_icmp .ge 20, 3) := by decide +kernel
theorem dX4_firstFault_43 : decode cX4_firstFault 43 = .ok (.aload_n 0, 1) := by decide +kernel
theorem dX4_firstFault_44 : decode cX4_firstFault 44 = .ok (.iload_n 1, 1) := by decide +kernel
theorem dX4_firstFault_45 : decode cX4_firstFault 45 = .ok (.iload_n 3, 1) := by decide +kernel
theorem dX4_firstFault_46 : decode cX4_firstFault 46 = .ok (.iadd, 1) := by decide +kernel
theorem dX4_firstFault_47 : decode cX4_firstFault 47 = .ok (.iaload, 1) := by decide +kernel
theorem dX4_firstFault_48 : decode cX4_firstFault 48 = .ok (.invokestatic 15, 3) := by decide +kernel
theorem dX4_firstFault_51 : decode cX4_firstFault 51 = .ok (.ifCond .eq 9, 3) := by decide +kernel
theorem dX4_firstFault_54 : decode cX4_firstFault 54 = .ok (.iinc 3 1, 3) := by decide +kernel
theorem dX4_firstFault_57 : decode cX4_firstFault 57 = .ok (.goto (-25), 3) := by decide +kernel
theorem dX4_firstFault_60 : decode cX4_firstFault 60 = .ok (.iload_n 3, 1) := by decide +kernel
theorem dX4_firstFault_61 : decode cX4_firstFault 61 = .ok (.iconst 5, 1) := by decide +kernel
theorem dX4_firstFault_62 : decode cX4_firstFault 62 = .ok (.if_icmp .ne 5, 3) := by decide +kernel
theorem dX4_firstFault_65 : decode cX4_firstFault 65 = .ok (.iload_n 3, 1) := by decide +kernel
theorem dX4_firstFault_66 : decode cX4_firstFault 66 = .ok (.ireturn, 1) := by decide +kernel
theorem dX4_firstFault_67 : decode cX4_firstFault 67 = .ok (.iconst 0, 1) := by decide +kernel
theorem dX4_firstFault_68 : decode cX4_firstFault 68 = .ok (.istore 4, 2) := by decide +kernel
theorem dX4_firstFault_70 : decode cX4_firstFault 70 = .ok (.iload 4, 2) := by decide +kernel
theorem dX4_firstFault_72 : decode cX4_firstFault 72 = .ok (.iconst 4, 1) := by decide +kernel
theorem dX4_firstFault_73 : decode cX4_firstFault 73 = .ok (.if_icmp .ge 57, 3) := by decide +kernel
theorem dX4_firstFault_76 : decode cX4_firstFault 76 = .ok (.iload 4, 2) := by decide +kernel
theorem dX4_firstFault_78 : decode cX4_firstFault 78 = .ok (.ifCond .eq 8, 3) := by decide +kernel
theorem dX4_firstFault_81 : decode cX4_firstFault 81 = .ok (.iload_n 3, 1) := by decide +kernel
theorem dX4_firstFault_82 : decode cX4_firstFault 82 = .ok (.iload_n 2, 1) := by decide +kernel
theorem dX4_firstFault_83 : decode cX4_firstFault 83 = .ok (.if_icmp .ge 47, 3) := by decide +kernel
theorem dX4_firstFault_86 : decode cX4_firstFault 86 = .ok (.iconst 0, 1) := by decide +kernel
theorem dX4_firstFault_87 : decode cX4_firstFault 87 = .ok (.istore 5, 2) := by decide +kernel
theorem dX4_firstFault_89 : decode cX4_firstFault 89 = .ok (.iload 5, 2) := by decide +kernel
theorem dX4_firstFault_91 : decode cX4_firstFault 91 = .ok (.iconst 5, 1) := by decide +kernel
theorem dX4_firstFault_92 : decode cX4_firstFault 92 = .ok (.if_icmp .ge 32, 3) := by decide +kernel
theorem dX4_firstFault_95 : decode cX4_firstFault 95 = .ok (.iload_n 3, 1) := by decide +kernel
theorem dX4_firstFault_96 : decode cX4_firstFault 96 = .ok (.iload_n 2, 1) := by decide +kernel
theorem dX4_firstFault_97 : decode cX4_firstFault 97 = .ok (.if_icmp .ge 16, 3) := by decide +kernel
theorem dX4_firstFault_100 : decode cX4_firstFault 100 = .ok (.iload 5, 2) := by decide +kernel
theorem dX4_firstFault_102 : decode cX4_firstFault 102 = .ok (.aload_n 0, 1) := by decide +kernel
theorem dX4_firstFault_103 : decode cX4_firstFault 103 = .ok (.iload_n 1, 1) := by decide +kernel
theorem dX4_firstFault_104 : decode cX4_firstFault 104 = .ok (.iload_n 3, 1) := by decide +kernel
theorem dX4_firstFault_105 : decode cX4_firstFault 105 = .ok (.iadd, 1) := by decide +kernel
theorem dX4_firstFault_106 : decode cX4_firstFault 106 = .ok (.iaload, 1) := by decide +kernel
theorem dX4_firstFault_107 : decode cX4_firstFault 107 = .ok (.invokestatic 19, 3) := by decide +kernel
theorem dX4_firstFault_110 : decode cX4_firstFault 110 = .ok (.ifCond .ne 5, 3) := by decide +kernel
theorem dX4_firstFault_113 : decode cX4_firstFault 113 = .ok (.iload_n 3, 1) := by decide +kernel
theorem dX4_firstFault_114 : decode cX4_firstFault 114 = .ok (.ireturn, 1) := by decide +kernel
theorem dX4_firstFault_115 : decode cX4_firstFault 115 = .ok (.iinc 3 1, 3) := by decide +kernel
theorem dX4_firstFault_118 : decode cX4_firstFault 118 = .ok (.iinc 5 1, 3) := by decide +kernel
theorem dX4_firstFault_121 : decode cX4_firstFault 121 = .ok (.goto (-32), 3) := by decide +kernel
theorem dX4_firstFault_124 : decode cX4_firstFault 124 = .ok (.iinc 4 1, 3) := by decide +kernel
theorem dX4_firstFault_127 : decode cX4_firstFault 127 = .ok (.goto (-57), 3) := by decide +kernel
theorem dX4_firstFault_130 : decode cX4_firstFault 130 = .ok (.iload_n 3, 1) := by decide +kernel
theorem dX4_firstFault_131 : decode cX4_firstFault 131 = .ok (.iload_n 2, 1) := by decide +kernel
theorem dX4_firstFault_132 : decode cX4_firstFault 132 = .ok (.if_icmp .ge 7, 3) := by decide +kernel
theorem dX4_firstFault_135 : decode cX4_firstFault 135 = .ok (.iload_n 3, 1) := by decide +kernel
theorem dX4_firstFault_136 : decode cX4_firstFault 136 = .ok (.goto 4, 3) := by decide +kernel
theorem dX4_firstFault_139 : decode cX4_firstFault 139 = .ok (.iconst (-1), 1) := by decide +kernel
theorem dX4_firstFault_140 : decode cX4_firstFault 140 = .ok (.ireturn, 1) := by decide +kernel
theorem dX4_fitsHead_0 : decode cX4_fitsHead 0 = .ok (.iload_n 0, 1) := by decide +kernel
theorem dX4_fitsHead_1 : decode cX4_fitsHead 1 = .ok (.lookupswitch 51 #[(0, 27), (4, 39)], 27) := by decide +kernel
theorem dX4_fitsHead_28 : decode cX4_fitsHead 28 = .ok (.iload_n 1, 1) := by decide +kernel
theorem dX4_fitsHead_29 : decode cX4_fitsHead 29 = .ok (.bipush 114, 2) := by decide +kernel
theorem dX4_fitsHead_31 : decode cX4_fitsHead 31 = .ok (.if_icmp .ne 7, 3) := by decide +kernel
theorem dX4_fitsHead_34 : decode cX4_fitsHead 34 = .ok (.iconst 1, 1) := by decide +kernel
theorem dX4_fitsHead_35 : decode cX4_fitsHead 35 = .ok (.goto 4, 3) := by decide +kernel
theorem dX4_fitsHead_38 : decode cX4_fitsHead 38 = .ok (.iconst 0, 1) := by decide +kernel
theorem dX4_fitsHead_39 : decode cX4_fitsHead 39 = .ok (.ireturn, 1) := by decide +kernel
theorem dX4_fitsHead_40 : decode cX4_fitsHead 40 = .ok (.iload_n 1, 1) := by decide +kernel
theorem dX4_fitsHead_41 : decode cX4_fitsHead 41 = .ok (.bipush 59, 2) := by decide +kernel
theorem dX4_fitsHead_43 : decode cX4_fitsHead 43 = .ok (.if_icmp .ne 7, 3) := by decide +kernel
theorem dX4_fitsHead_46 : decode cX4_fitsHead 46 = .ok (.iconst 1, 1) := by decide +kernel
theorem dX4_fitsHead_47 : decode cX4_fitsHead 47 = .ok (.goto 4, 3) := by decide +kernel
theorem dX4_fitsHead_50 : decode cX4_fitsHead 50 = .ok (.iconst 0, 1) := by decide +kernel
theorem dX4_fitsHead_51 : decode cX4_fitsHead 51 = .ok (.ireturn, 1) := by decide +kernel
theorem dX4_fitsHead_52 : decode cX4_fitsHead 52 = .ok (.iload_n 1, 1) := by decide +kernel
theorem dX4_fitsHead_53 : decode cX4_fitsHead 53 = .ok (.iconst 4, 1) := by decide +kernel
theorem dX4_fitsHead_54 : decode cX4_fitsHead 54 = .ok (.invokestatic 22, 3) := by decide +kernel
theorem dX4_fitsHead_57 : decode cX4_fitsHead 57 = .ok (.ireturn, 1) := by decide +kernel
theorem dX4_isMile_0 : decode cX4_isMile 0 = .ok (.iload_n 0, 1) := by decide +kernel
theorem dX4_isMile_1 : decode cX4_isMile 1 = .ok (.bipush 45, 2) := by decide +kernel
theorem dX4_isMile_3 : decode cX4_isMile 3 = .ok (.if_icmp .eq 9, 3) := by decide +kernel
theorem dX4_isMile_6 : decode cX4_isMile 6 = .ok (.iload_n 0, 1) := by decide +kernel
theorem dX4_isMile_7 : decode cX4_isMile 7 = .ok (.bipush 117, 2) := by decide +kernel
theorem dX4_isMile_9 : decode cX4_isMile 9 = .ok (.if_icmp .ne 7, 3) := by decide +kernel
theorem dX4_isMile_12 : decode cX4_isMile 12 = .ok (.iconst 1, 1) := by decide +kernel
theorem dX4_isMile_13 : decode cX4_isMile 13 = .ok (.goto 4, 3) := by decide +kernel
theorem dX4_isMile_16 : decode cX4_isMile 16 = .ok (.iconst 0, 1) := by decide +kernel
theorem dX4_isMile_17 : decode cX4_isMile 17 = .ok (.ireturn, 1) := by decide +kernel
theorem dX4_fitsPassenger_0 : decode cX4_fitsPassenger 0 = .ok (.iload_n 0, 1) := by decide +kernel
theorem dX4_fitsPassenger_1 : decode cX4_fitsPassenger 1 = .ok (.tableswitch 60 0 2 #[27, 39, 54], 27) := by decide +kernel
theorem dX4_fitsPassenger_28 : decode cX4_fitsPassenger 28 = .ok (.iload_n 1, 1) := by decide +kernel
theorem dX4_fitsPassenger_29 : decode cX4_fitsPassenger 29 = .ok (.bipush 44, 2) := by decide +kernel
theorem dX4_fitsPassenger_31 : decode cX4_fitsPassenger 31 = .ok (.if_icmp .ne 7, 3) := by decide +kernel
theorem dX4_fitsPassenger_34 : decode cX4_fitsPassenger 34 = .ok (.iconst 1, 1) := by decide +kernel
theorem dX4_fitsPassenger_35 : decode cX4_fitsPassenger 35 = .ok (.goto 4, 3) := by decide +kernel
theorem dX4_fitsPassenger_38 : decode cX4_fitsPassenger 38 = .ok (.iconst 0, 1) := by decide +kernel
theorem dX4_fitsPassenger_39 : decode cX4_fitsPassenger 39 = .ok (.ireturn, 1) := by decide +kernel
theorem dX4_fitsPassenger_40 : decode cX4_fitsPassenger 40 = .ok (.iload_n 1, 1) := by decide +kernel
theorem dX4_fitsPassenger_41 : decode cX4_fitsPassenger 41 = .ok (.invokestatic 25, 3) := by decide +kernel
theorem dX4_fitsPassenger_44 : decode cX4_fitsPassenger 44 = .ok (.bipush (-9), 2) := by decide +kernel
theorem dX4_fitsPassenger_46 : decode cX4_fitsPassenger 46 = .ok (.if_icmp .eq 7, 3) := by decide +kernel
theorem dX4_fitsPassenger_49 : decode cX4_fitsPassenger 49 = .ok (.iconst 1, 1) := by decide +kernel
theorem dX4_fitsPassenger_50 : decode cX4_fitsPassenger 50 = .ok (.goto 4, 3) := by decide +kernel
theorem dX4_fitsPassenger_53 : decode cX4_fitsPassenger 53 = .ok (.iconst 0, 1) := by decide +kernel
theorem dX4_fitsPassenger_54 : decode cX4_fitsPassenger 54 = .ok (.ireturn, 1) := by decide +kernel
theorem dX4_fitsPassenger_55 : decode cX4_fitsPassenger 55 = .ok (.iload_n 1, 1) := by decide +kernel
theorem dX4_fitsPassenger_56 : decode cX4_fitsPassenger 56 = .ok (.iconst 5, 1) := by decide +kernel
theorem dX4_fitsPassenger_57 : decode cX4_fitsPassenger 57 = .ok (.invokestatic 22, 3) := by decide +kernel
theorem dX4_fitsPassenger_60 : decode cX4_fitsPassenger 60 = .ok (.ireturn, 1) := by decide +kernel
theorem dX4_fitsPassenger_61 : decode cX4_fitsPassenger 61 = .ok (.iload_n 1, 1) := by decide +kernel
theorem dX4_fitsPassenger_62 : decode cX4_fitsPassenger 62 = .ok (.bipush 9, 2) := by decide +kernel
theorem dX4_fitsPassenger_64 : decode cX4_fitsPassenger 64 = .ok (.invokestatic 22, 3) := by decide +kernel
theorem dX4_fitsPassenger_67 : decode cX4_fitsPassenger 67 = .ok (.ireturn, 1) := by decide +kernel
theorem dX4_isDigit_0 : decode cX4_isDigit 0 = .ok (.iload_n 0, 1) := by decide +kernel
theorem dX4_isDigit_1 : decode cX4_isDigit 1 = .ok (.bipush 48, 2) := by decide +kernel
theorem dX4_isDigit_3 : decode cX4_isDigit 3 = .ok (.if_icmp .lt 15, 3) := by decide +kernel
theorem dX4_isDigit_6 : decode cX4_isDigit 6 = .ok (.iload_n 0, 1) := by decide +kernel
theorem dX4_isDigit_7 : decode cX4_isDigit 7 = .ok (.bipush 48, 2) := by decide +kernel
theorem dX4_isDigit_9 : decode cX4_isDigit 9 = .ok (.iload_n 1, 1) := by decide +kernel
theorem dX4_isDigit_10 : decode cX4_isDigit 10 = .ok (.iadd, 1) := by decide +kernel
theorem dX4_isDigit_11 : decode cX4_isDigit 11 = .ok (.if_icmp .gt 7, 3) := by decide +kernel
theorem dX4_isDigit_14 : decode cX4_isDigit 14 = .ok (.iconst 1, 1) := by decide +kernel
theorem dX4_isDigit_15 : decode cX4_isDigit 15 = .ok (.goto 4, 3) := by decide +kernel
theorem dX4_isDigit_18 : decode cX4_isDigit 18 = .ok (.iconst 0, 1) := by decide +kernel
theorem dX4_isDigit_19 : decode cX4_isDigit 19 = .ok (.ireturn, 1) := by decide +kernel
theorem dX4_kindOf_0 : decode cX4_kindOf 0 = .ok (.iload_n 0, 1) := by decide +kernel
theorem dX4_kindOf_1 : decode cX4_kindOf 1 = .ok (.lookupswitch 41 #[(104, 39), (112, 35), (119, 37)], 35) := by decide +kernel
theorem dX4_kindOf_36 : decode cX4_kindOf 36 = .ok (.iconst 0, 1) := by decide +kernel
theorem dX4_kindOf_37 : decode cX4_kindOf 37 = .ok (.ireturn, 1) := by decide +kernel
theorem dX4_kindOf_38 : decode cX4_kindOf 38 = .ok (.iconst 1, 1) := by decide +kernel
theorem dX4_kindOf_39 : decode cX4_kindOf 39 = .ok (.ireturn, 1) := by decide +kernel
theorem dX4_kindOf_40 : decode cX4_kindOf 40 = .ok (.iconst 2, 1) := by decide +kernel
theorem dX4_kindOf_41 : decode cX4_kindOf 41 = .ok (.ireturn, 1) := by decide +kernel
theorem dX4_kindOf_42 : decode cX4_kindOf 42 = .ok (.bipush (-9), 2) := by decide +kernel
theorem dX4_kindOf_44 : decode cX4_kindOf 44 = .ok (.ireturn, 1) := by decide +kernel
theorem dX5_init_0 : decode cX5_init 0 = .ok (.aload_n 0, 1) := by decide +kernel
theorem dX5_init_1 : decode cX5_init 1 = .ok (.invokespecial 3, 3) := by decide +kernel
theorem dX5_init_4 : decode cX5_init 4 = .ok (.aload_n 0, 1) := by decide +kernel
theorem dX5_init_5 : decode cX5_init 5 = .ok (.iconst 3, 1) := by decide +kernel
theorem dX5_init_6 : decode cX5_init 6 = .ok (.newarray .int, 2) := by decide +kernel
theorem dX5_init_8 : decode cX5_init 8 = .ok (.putfield 9, 3) := by decide +kernel
theorem dX5_init_11 : decode cX5_init 11 = .ok (.aload_n 0, 1) := by decide +kernel
theorem dX5_init_12 : decode cX5_init 12 = .ok (.bipush 8, 2) := by decide +kernel
theorem dX5_init_14 : decode cX5_init 14 = .ok (.newarray .boolean, 2) := by decide +kernel
theorem dX5_init_16 : decode cX5_init 16 = .ok (.putfield 15, 3) := by decide +kernel
theorem dX5_init_19 : decode cX5_init 19 = .ok (.aload_n 0, 1) := by decide +kernel
theorem dX5_init_20 : decode cX5_init 20 = .ok (.bipush 8, 2) := by decide +kernel
theorem dX5_init_22 : decode cX5_init 22 = .ok (.newarray .int, 2) := by decide +kernel
theorem dX5_init_24 : decode cX5_init 24 = .ok (.putfield 19, 3) := by decide +kernel
theorem dX5_init_27 : decode cX5_init 27 = .ok (.aload_n 0, 1) := by decide +kernel
theorem dX5_init_28 : decode cX5_init 28 = .ok (.bipush 8, 2) := by decide +kernel
theorem dX5_init_30 : decode cX5_init 30 = .ok (.newarray .int, 2) := by decide +kernel
theorem dX5_init_32 : decode cX5_init 32 = .ok (.putfield 22, 3) := by decide +kernel
theorem dX5_init_35 : decode cX5_init 35 = .ok (.aload_n 0, 1) := by decide +kernel
theorem dX5_init_36 : decode cX5_init 36 = .ok (.iconst 4, 1) := by decide +kernel
theorem dX5_init_37 : decode cX5_init 37 = .ok (.newarray .int, 2) := by decide +kernel
theorem dX5_init_39 : decode cX5_init 39 = .ok (.putfield 25, 3) := by decide +kernel
theorem dX5_init_42 : decode cX5_init 42 = .ok (.aload_n 0, 1) := by decide +kernel
theorem dX5_init_43 : decode cX5_init 43 = .ok (.iconst 4, 1) := by decide +kernel
theorem dX5_init_44 : decode cX5_init 44 = .ok (.newarray .int, 2) := by decide +kernel
theorem dX5_init_46 : decode cX5_init 46 = .ok (.putfield 28, 3) := by decide +kernel
theorem dX5_init_49 : decode cX5_init 49 = .ok (.aload_n 0, 1) := by decide +kernel
theorem dX5_init_50 : decode cX5_init 50 = .ok (.iconst 4, 1) := by decide +kernel
theorem dX5_init_51 : decode cX5_init 51 = .ok (.newarray .int, 2) := by decide +kernel
theorem dX5_init_53 : decode cX5_init 53 = .ok (.putfield 31, 3) := by decide +kernel
theorem dX5_init_56 : decode cX5_init 56 = .ok (.aload_n 0, 1) := by decide +kernel
theorem dX5_init_57 : decode cX5_init 57 = .ok (.bipush 9, 2) := by decide +kernel
theorem dX5_init_59 : decode cX5_init 59 = .ok (.iconst 4, 1) := by decide +kernel
theorem dX5_init_60 : decode cX5_init 60 = .ok (.multianewarray 34 2, 4) := by decide +kernel
theorem dX5_init_64 : decode cX5_init 64 = .ok (.putfield 36, 3) := by decide +kernel
theorem dX5_init_67 : decode cX5_init 67 = .ok (.aload_n 0, 1) := by decide +kernel
theorem dX5_init_68 : decode cX5_init 68 = .ok (.iconst 0, 1) := by decide +kernel
theorem dX5_init_69 : decode cX5_init 69 = .ok (.putfield 39, 3) := by decide +kernel
theorem dX5_init_72 : decode cX5_init 72 = .ok (.aload_n 0, 1) := by decide +kernel
theorem dX5_init_73 : decode cX5_init 73 = .ok (.iconst 0, 1) := by decide +kernel
theorem dX5_init_74 : decode cX5_init 74 = .ok (.putfield 43, 3) := by decide +kernel
theorem dX5_init_77 : decode cX5_init 77 = .ok (.aload_n 0, 1) := by decide +kernel
theorem dX5_init_78 : decode cX5_init 78 = .ok (.iconst 0, 1) := by decide +kernel
theorem dX5_init_79 : decode cX5_init 79 = .ok (.putfield 46, 3) := by decide +kernel
theorem dX5_init_82 : decode cX5_init 82 = .ok (.aload_n 0, 1) := by decide +kernel
theorem dX5_init_83 : decode cX5_init 83 = .ok (.iconst 0, 1) := by decide +kernel
theorem dX5_init_84 : decode cX5_init 84 = .ok (.putfield 49, 3) := by decide +kernel
theorem dX5_init_87 : decode cX5_init 87 = .ok (.return_, 1) := by decide +kernel
theorem dX5_readFrom_0 : decode cX5_readFrom 0 = .ok (.iconst 0, 1) := by decide +kernel
theorem dX5_readFrom_1 : decode cX5_readFrom 1 = .ok (.istore 4, 2) := by decide +kernel
theorem dX5_readFrom_3 : decode cX5_readFrom 3 = .ok (.iload 4, 2) := by decide +kernel
theorem dX5_readFrom_5 : decode cX5_readFrom 5 = .ok (.iconst 3, 1) := by decide +kernel
theorem dX5_readFrom_6 : decode cX5_readFrom 6 = .ok (.if_icmp .ge 27, 3) := by decide +kernel
theorem dX5_readFrom_9 : decode cX5_readFrom 9 = .ok (.aload_n 0, 1) := by decide +kernel
theorem dX5_readFrom_10 : decode cX5_readFrom 10 = .ok (.getfield 9, 3) := by decide +kernel
theorem dX5_readFrom_13 : decode cX5_readFrom 13 = .ok (.iload 4, 2) := by decide +kernel
theorem dX5_readFrom_15 : decode cX5_readFrom 15 = .ok (.aload_n 1, 1) := by decide +kernel
theorem dX5_readFrom_16 : decode cX5_readFrom 16 = .ok (.iload_n 2, 1) := by decide +kernel
theorem dX5_readFrom_17 : decode cX5_readFrom 17 = .ok (.iconst 1, 1) := by decide +kernel
theorem dX5_readFrom_18 : decode cX5_readFrom 18 = .ok (.iadd, 1) := by decide +kernel
theorem dX5_readFrom_19 : decode cX5_readFrom 19 = .ok (.iload 4, 2) := by decide +kernel
theorem dX5_readFrom_21 : decode cX5_readFrom 21 = .ok (.iadd, 1) := by decide +kernel
theorem dX5_readFrom_22 : decode cX5_readFrom 22 = .ok (.iaload, 1) := by decide +kernel
theorem dX5_readFrom_23 : decode cX5_readFrom 23 = .ok (.bipush 48, 2) := by decide +kernel
theorem dX5_readFrom_25 : decode cX5_readFrom 25 = .ok (.isub, 1) := by decide +kernel
theorem dX5_readFrom_26 : decode cX5_readFrom 26 = .ok (.iastore, 1) := by decide +kernel
theorem dX5_readFrom_27 : decode cX5_readFrom 27 = .ok (.iinc 4 1, 3) := by decide +kernel
theorem dX5_readFrom_30 : decode cX5_readFrom 30 = .ok (.goto (-27), 3) := by decide +kernel
theorem dX5_readFrom_33 : decode cX5_readFrom 33 = .ok (.iload_n 2, 1) := by decide +kernel
theorem dX5_readFrom_34 : decode cX5_readFrom 34 = .ok (.iconst 5, 1) := by decide +kernel
theorem dX5_readFrom_35 : decode cX5_readFrom 35 = .ok (.iadd, 1) := by decide +kernel
theorem dX5_readFrom_36 : decode cX5_readFrom 36 = .ok (.istore 4, 2) := by decide +kernel
theorem dX5_readFrom_38 : decode cX5_readFrom 38 = .ok (.aload_n 0, 1) := by decide +kernel
theorem dX5_readFrom_39 : decode cX5_readFrom 39 = .ok (.iconst 0, 1) := by decide +kernel
theorem dX5_readFrom_40 : decode cX5_readFrom 40 = .ok (.putfield 39, 3) := by decide +kernel
theorem dX5_readFrom_43 : decode cX5_readFrom 43 = .ok (.aload_n 0, 1) := by decide +kernel
theorem dX5_readFrom_44 : decode cX5_readFrom 44 = .ok (.getfield 39, 3) := by decide +kernel
theorem dX5_readFrom_47 : decode cX5_readFrom 47 = .ok (.bipush 8, 2) := by decide +kernel
theorem dX5_readFrom_49 : decode cX5_readFrom 49 = .ok (.if_icmp .ge 51, 3) := by decide +kernel
theorem dX5_readFrom_52 : decode cX5_readFrom 52 = .ok (.aload_n 1, 1) := by decide +kernel
theorem dX5_readFrom_53 : decode cX5_readFrom 53 = .ok (.iload 4, 2) := by decide +kernel
theorem dX5_readFrom_55 : decode cX5_readFrom 55 = .ok (.iaload, 1) := by decide +kernel
theorem dX5_readFrom_56 : decode cX5_readFrom 56 = .ok (.bipush 44, 2) := by decide +kernel
theorem dX5_readFrom_58 : decode cX5_readFrom 58 = .ok (.if_icmp .eq 42, 3) := by decide +kernel
theorem dX5_readFrom_61 : decode cX5_readFrom 61 = .ok (.aload_n 0, 1) := by decide +kernel
theorem dX5_readFrom_62 : decode cX5_readFrom 62 = .ok (.getfield 15, 3) := by decide +kernel
theorem dX5_readFrom_65 : decode cX5_readFrom 65 = .ok (.aload_n 0, 1) := by decide +kernel
theorem dX5_readFrom_66 : decode cX5_readFrom 66 = .ok (.getfield 39, 3) := by decide +kernel
theorem dX5_readFrom_69 : decode cX5_readFrom 69 = .ok (.aload_n 1, 1) := by decide +kernel
theorem dX5_readFrom_70 : decode cX5_readFrom 70 = .ok (.iload 4, 2) := by decide +kernel
theorem dX5_readFrom_72 : decode cX5_readFrom 72 = .ok (.iaload, 1) := by decide +kernel
theorem dX5_readFrom_73 : decode cX5_readFrom 73 = .ok (.bipush 117, 2) := by decide +kernel
theorem dX5_readFrom_75 : decode cX5_readFrom 75 = .ok (.if_icmp .ne 7, 3) := by decide +kernel
theorem dX5_readFrom_78 : decode cX5_readFrom 78 = .ok (.iconst 1, 1) := by decide +kernel
theorem dX5_readFrom_79 : decode cX5_readFrom 79 = .ok (.goto 4, 3) := by decide +kernel
theorem dX5_readFrom_82 : decode cX5_readFrom 82 = .ok (.iconst 0, 1) := by decide +kernel
theorem dX5_readFrom_83 : decode cX5_readFrom 83 = .ok (.bastore, 1) := by decide +kernel
theorem dX5_readFrom_84 : decode cX5_readFrom 84 = .ok (.aload_n 0, 1) := by decide +kernel
theorem dX5_readFrom_85 : decode cX5_readFrom 85 = .ok (.dup, 1) := by decide +kernel
theorem dX5_readFrom_86 : decode cX5_readFrom 86 = .ok (.getfield 39, 3) := by decide +kernel
theorem dX5_readFrom_89 : decode cX5_readFrom 89 = .ok (.iconst 1, 1) := by decide +kernel
theorem dX5_readFrom_90 : decode cX5_readFrom 90 = .ok (.iadd, 1) := by decide +kernel
theorem dX5_readFrom_91 : decode cX5_readFrom 91 = .ok (.putfield 39, 3) := by decide +kernel
theorem dX5_readFrom_94 : decode cX5_readFrom 94 = .ok (.iinc 4 1, 3) := by decide +kernel
theorem dX5_readFrom_97 : decode cX5_readFrom 97 = .ok (.goto (-54), 3) := by decide +kernel
theorem dX5_readFrom_100 : decode cX5_readFrom 100 = .ok (.aload_n 0, 1) := by decide +kernel
theorem dX5_readFrom_101 : decode cX5_readFrom 101 = .ok (.iload_n 2, 1) := by decide +kernel
theorem dX5_readFrom_102 : decode cX5_readFrom 102 = .ok (.iload_n 3, 1) := by decide +kernel
theorem dX5_readFrom_103 : decode cX5_readFrom 103 = .ok (.iadd, 1) := by decide +kernel
theorem dX5_readFrom_104 : decode cX5_readFrom 104 = .ok (.iload 4, 2) := by decide +kernel
theorem dX5_readFrom_106 : decode cX5_readFrom 106 = .ok (.isub, 1) := by decide +kernel
theorem dX5_readFrom_107 : decode cX5_readFrom 107 = .ok (.iconst 5, 1) := by decide +kernel
theorem dX5_readFrom_108 : decode cX5_readFrom 108 = .ok (.idiv, 1) := by decide +kernel
theorem dX5_readFrom_109 : decode cX5_readFrom 109 = .ok (.putfield 43, 3) := by decide +kernel
theorem dX5_readFrom_112 : decode cX5_readFrom 112 = .ok (.iconst 0, 1) := by decide +kernel
theorem dX5_readFrom_113 : decode cX5_readFrom 113 = .ok (.istore 5, 2) := by decide +kernel
theorem dX5_readFrom_115 : decode cX5_readFrom 115 = .ok (.iload 5, 2) := by decide +kernel
theorem dX5_readFrom_117 : decode cX5_readFrom 117 = .ok (.aload_n 0, 1) := by decide +kernel
theorem dX5_readFrom_118 : decode cX5_readFrom 118 = .ok (.getfield 43, 3) := by decide +kernel
theorem dX5_readFrom_121 : decode cX5_readFrom 121 = .ok (.if_icmp .ge 73, 3) := by decide +kernel
theorem dX5_readFrom_124 : decode cX5_readFrom 124 = .ok (.aload_n 0, 1) := by decide +kernel
theorem dX5_readFrom_125 : decode cX5_readFrom 125 = .ok (.getfield 25, 3) := by decide +kernel
theorem dX5_readFrom_128 : decode cX5_readFrom 128 = .ok (.iload 5, 2) := by decide +kernel
theorem dX5_readFrom_130 : decode cX5_readFrom 130 = .ok (.aload_n 1, 1) := by decide +kernel
theorem dX5_readFrom_131 : decode cX5_readFrom 131 = .ok (.iload 4, 2) := by decide +kernel
theorem dX5_readFrom_133 : decode cX5_readFrom 133 = .ok (.iconst 1, 1) := by decide +kernel
theorem dX5_readFrom_134 : decode cX5_readFrom 134 = .ok (.iadd, 1) := by decide +kernel
theorem dX5_readFrom_135 : decode cX5_readFrom 135 = .ok (.iaload, 1) := by decide +kernel
theorem dX5_readFrom_136 : decode cX5_readFrom 136 = .ok (.invokestatic 52, 3) := by decide +kernel
theorem dX5_readFrom_139 : decode cX5_readFrom 139 = .ok (.iastore, 1) := by decide +kernel
theorem dX5_readFrom_140 : decode cX5_readFrom 140 = .ok (.aload_n 0, 1) := by decide +kernel
theorem dX5_readFrom_141 : decode cX5_readFrom 141 = .ok (.getfield 28, 3) := by decide +kernel
theorem dX5_readFrom_144 : decode cX5_readFrom 144 = .ok (.iload 5, 2) := by decide +kernel
theorem dX5_readFrom_146 : decode cX5_readFrom 146 = .ok (.bipush 10, 2) := by decide +kernel
theorem dX5_readFrom_148 : decode cX5_readFrom 148 = .ok (.aload_n 1, 1) := by decide +kernel
theorem dX5_readFrom_149 : decode cX5_readFrom 149 = .ok (.iload 4, 2) := by decide +kernel
theorem dX5_readFrom_151 : decode cX5_readFrom 151 = .ok (.iconst 2, 1) := by decide +kernel
theorem dX5_readFrom_152 : decode cX5_readFrom 152 = .ok (.iadd, 1) := by decide +kernel
theorem dX5_readFrom_153 : decode cX5_readFrom 153 = .ok (.iaload, 1) := by decide +kernel
theorem dX5_readFrom_154 : decode cX5_readFrom 154 = .ok (.bipush 48, 2) := by decide +kernel
theorem dX5_readFrom_156 : decode cX5_readFrom 156 = .ok (.isub, 1) := by decide +kernel
theorem dX5_readFrom_157 : decode cX5_readFrom 157 = .ok (.imul, 1) := by decide +kernel
theorem dX5_readFrom_158 : decode cX5_readFrom 158 = .ok (.aload_n 1, 1) := by decide +kernel
theorem dX5_readFrom_159 : decode cX5_readFrom 159 = .ok (.iload 4, 2) := by decide +kernel
theorem dX5_readFrom_161 : decode cX5_readFrom 161 = .ok (.iconst 3, 1) := by decide +kernel
theorem dX5_readFrom_162 : decode cX5_readFrom 162 = .ok (.iadd, 1) := by decide +kernel
theorem dX5_readFrom_163 : decode cX5_readFrom 163 = .ok (.iaload, 1) := by decide +kernel
theorem dX5_readFrom_164 : decode cX5_readFrom 164 = .ok (.iadd, 1) := by decide +kernel
theorem dX5_readFrom_165 : decode cX5_readFrom 165 = .ok (.bipush 48, 2) := by decide +kernel
theorem dX5_readFrom_167 : decode cX5_readFrom 167 = .ok (.isub, 1) := by decide +kernel
theorem dX5_readFrom_168 : decode cX5_readFrom 168 = .ok (.iastore, 1) := by decide +kernel
theorem dX5_readFrom_169 : decode cX5_readFrom 169 = .ok (.aload_n 0, 1) := by decide +kernel
theorem dX5_readFrom_170 : decode cX5_readFrom 170 = .ok (.getfield 31, 3) := by decide +kernel
theorem dX5_readFrom_173 : decode cX5_readFrom 173 = .ok (.iload 5, 2) := by decide +kernel
theorem dX5_readFrom_175 : decode cX5_readFrom 175 = .ok (.aload_n 1, 1) := by decide +kernel
theorem dX5_readFrom_176 : decode cX5_readFrom 176 = .ok (.iload 4, 2) := by decide +kernel
theorem dX5_readFrom_178 : decode cX5_readFrom 178 = .ok (.iconst 4, 1) := by decide +kernel
theorem dX5_readFrom_179 : decode cX5_readFrom 179 = .ok (.iadd, 1) := by decide +kernel
theorem dX5_readFrom_180 : decode cX5_readFrom 180 = .ok (.iaload, 1) := by decide +kernel
theorem dX5_readFrom_181 : decode cX5_readFrom 181 = .ok (.bipush 48, 2) := by decide +kernel
theorem dX5_readFrom_183 : decode cX5_readFrom 183 = .ok (.isub, 1) := by decide +kernel
theorem dX5_readFrom_184 : decode cX5_readFrom 184 = .ok (.iastore, 1) := by decide +kernel
theorem dX5_readFrom_185 : decode cX5_readFrom 185 = .ok (.iinc 4 5, 3) := by decide +kernel
theorem dX5_readFrom_188 : decode cX5_readFrom 188 = .ok (.iinc 5 1, 3) := by decide +kernel
theorem dX5_readFrom_191 : decode cX5_readFrom 191 = .ok (.goto (-76), 3) := by decide +kernel
theorem dX5_readFrom_194 : decode cX5_readFrom 194 = .ok (.aload_n 0, 1) := by decide +kernel
theorem dX5_readFrom_195 : decode cX5_readFrom 195 = .ok (.bipush 20, 2) := by decide +kernel
theorem dX5_readFrom_197 : decode cX5_readFrom 197 = .ok (.putfield 46, 3) := by decide +kernel
theorem dX5_readFrom_200 : decode cX5_readFrom 200 = .ok (.aload_n 0, 1) := by decide +kernel
theorem dX5_readFrom_201 : decode cX5_readFrom 201 = .ok (.bipush 40, 2) := by decide +kernel
theorem dX5_readFrom_203 : decode cX5_readFrom 203 = .ok (.putfield 49, 3) := by decide +kernel
theorem dX5_readFrom_206 : decode cX5_readFrom 206 = .ok (.aload_n 0, 1) := by decide +kernel
theorem dX5_readFrom_207 : decode cX5_readFrom 207 = .ok (.getfield 19, 3) := by decide +kernel
theorem dX5_readFrom_210 : decode cX5_readFrom 210 = .ok (.bipush (-9), 2) := by decide +kernel
theorem dX5_readFrom_212 : decode cX5_readFrom 212 = .ok (.invokestatic 58, 3) := by decide +kernel
theorem dX5_readFrom_215 : decode cX5_readFrom 215 = .ok (.aload_n 0, 1) := by decide +kernel
theorem dX5_readFrom_216 : decode cX5_readFrom 216 = .ok (.getfield 22, 3) := by decide +kernel
theorem dX5_readFrom_219 : decode cX5_readFrom 219 = .ok (.bipush (-9), 2) := by decide +kernel
theorem dX5_readFrom_221 : decode cX5_readFrom 221 = .ok (.invokestatic 58, 3) := by decide +kernel
theorem dX5_readFrom_224 : decode cX5_readFrom 224 = .ok (.return_, 1) := by decide +kernel
theorem dX5_becomeLike_0 : decode cX5_becomeLike 0 = .ok (.aload_n 0, 1) := by decide +kernel
theorem dX5_becomeLike_1 : decode cX5_becomeLike 1 = .ok (.aload_n 1, 1) := by decide +kernel
theorem dX5_becomeLike_2 : decode cX5_becomeLike 2 = .ok (.getfield 39, 3) := by decide +kernel
theorem dX5_becomeLike_5 : decode cX5_becomeLike 5 = .ok (.putfield 39, 3) := by decide +kernel
theorem dX5_becomeLike_8 : decode cX5_becomeLike 8 = .ok (.aload_n 0, 1) := by decide +kernel
theorem dX5_becomeLike_9 : decode cX5_becomeLike 9 = .ok (.aload_n 1, 1) := by decide +kernel
theorem dX5_becomeLike_10 : decode cX5_becomeLike 10 = .ok (.getfield 43, 3) := by decide +kernel
theorem dX5_becomeLike_13 : decode cX5_becomeLike 13 = .ok (.putfield 43, 3) := by decide +kernel
theorem dX5_becomeLike_16 : decode cX5_becomeLike 16 = .ok (.aload_n 0, 1) := by decide +kernel
theorem dX5_becomeLike_17 : decode cX5_becomeLike 17 = .ok (.aload_n 1, 1) := by decide +kernel
theorem dX5_becomeLike_18 : decode cX5_becomeLike 18 = .ok (.getfield 46, 3) := by decide +kernel
theorem dX5_becomeLike_21 : decode cX5_becomeLike 21 = .ok (.putfield 46, 3) := by decide +kernel
theorem dX5_becomeLike_24 : decode cX5_becomeLike 24 = .ok (.aload_n 0, 1) := by decide +kernel
theorem dX5_becomeLike_25 : decode cX5_becomeLike 25 = .ok (.aload_n 1, 1) := by decide +kernel
theorem dX5_becomeLike_26 : decode cX5_becomeLike 26 = .ok (.getfield 49, 3) := by decide +kernel
theorem dX5_becomeLike_29 : decode cX5_becomeLike 29 = .ok (.putfield 49, 3) := by decide +kernel
theorem dX5_becomeLike_32 : decode cX5_becomeLike 32 = .ok (.iconst 0, 1) := by decide +kernel
theorem dX5_becomeLike_33 : decode cX5_becomeLike 33 = .ok (.istore_n 2, 1) := by decide +kernel
theorem dX5_becomeLike_34 : decode cX5_becomeLike 34 = .ok (.iload_n 2, 1) := by decide +kernel
theorem dX5_becomeLike_35 : decode cX5_becomeLike 35 = .ok (.aload_n 0, 1) := by decide +kernel
theorem dX5_becomeLike_36 : decode cX5_becomeLike 36 = .ok (.getfield 39, 3) := by decide +kernel
theorem dX5_becomeLike_39 : decode cX5_becomeLike 39 = .ok (.if_icmp .ge 45, 3) := by decide +kernel
theorem dX5_becomeLike_42 : decode cX5_becomeLike 42 = .ok (.aload_n 0, 1) := by decide +kernel
theorem dX5_becomeLike_43 : decode cX5_becomeLike 43 = .ok (.getfield 15, 3) := by decide +kernel
theorem dX5_becomeLike_46 : decode cX5_becomeLike 46 = .ok (.iload_n 2, 1) := by decide +kernel
theorem dX5_becomeLike_47 : decode cX5_becomeLike 47 = .ok (.aload_n 1, 1) := by decide +kernel
theorem dX5_becomeLike_48 : decode cX5_becomeLike 48 = .ok (.getfield 15, 3) := by decide +kernel
theorem dX5_becomeLike_51 : decode cX5_becomeLike 51 = .ok (.iload_n 2, 1) := by decide +kernel
theorem dX5_becomeLike_52 : decode cX5_becomeLike 52 = .ok (.baload, 1) := by decide +kernel
theorem dX5_becomeLike_53 : decode cX5_becomeLike 53 = .ok (.bastore, 1) := by decide +kernel
theorem dX5_becomeLike_54 : decode cX5_becomeLike 54 = .ok (.aload_n 0, 1) := by decide +kernel
theorem dX5_becomeLike_55 : decode cX5_becomeLike 55 = .ok (.getfield 19, 3) := by decide +kernel
theorem dX5_becomeLike_58 : decode cX5_becomeLike 58 = .ok (.iload_n 2, 1) := by decide +kernel
theorem dX5_becomeLike_59 : decode cX5_becomeLike 59 = .ok (.aload_n 1, 1) := by decide +kernel
theorem dX5_becomeLike_60 : decode cX5_becomeLike 60 = .ok (.getfield 19, 3) := by decide +kernel
theorem dX5_becomeLike_63 : decode cX5_becomeLike 63 = .ok (.iload_n 2, 1) := by decide +kernel
theorem dX5_becomeLike_64 : decode cX5_becomeLike 64 = .ok (.iaload, 1) := by decide +kernel
theorem dX5_becomeLike_65 : decode cX5_becomeLike 65 = .ok (.iastore, 1) := by decide +kernel
theorem dX5_becomeLike_66 : decode cX5_becomeLike 66 = .ok (.aload_n 0, 1) := by decide +kernel
theorem dX5_becomeLike_67 : decode cX5_becomeLike 67 = .ok (.getfield 22, 3) := by decide +kernel
theorem dX5_becomeLike_70 : decode cX5_becomeLike 70 = .ok (.iload_n 2, 1) := by decide +kernel
theorem dX5_becomeLike_71 : decode cX5_becomeLike 71 = .ok (.aload_n 1, 1) := by decide +kernel
theorem dX5_becomeLike_72 : decode cX5_becomeLike 72 = .ok (.getfield 22, 3) := by decide +kernel
theorem dX5_becomeLike_75 : decode cX5_becomeLike 75 = .ok (.iload_n 2, 1) := by decide +kernel
theorem dX5_becomeLike_76 : decode cX5_becomeLike 76 = .ok (.iaload, 1) := by decide +kernel
theorem dX5_becomeLike_77 : decode cX5_becomeLike 77 = .ok (.iastore, 1) := by decide +kernel
theorem dX5_becomeLike_78 : decode cX5_becomeLike 78 = .ok (.iinc 2 1, 3) := by decide +kernel
theorem dX5_becomeLike_81 : decode cX5_becomeLike 81 = .ok (.goto (-47), 3) := by decide +kernel
theorem dX5_becomeLike_84 : decode cX5_becomeLike 84 = .ok (.iconst 0, 1) := by decide +kernel
theorem dX5_becomeLike_85 : decode cX5_becomeLike 85 = .ok (.istore_n 2, 1) := by decide +kernel
theorem dX5_becomeLike_86 : decode cX5_becomeLike 86 = .ok (.iload_n 2, 1) := by decide +kernel
theorem dX5_becomeLike_87 : decode cX5_becomeLike 87 = .ok (.aload_n 0, 1) := by decide +kernel
theorem dX5_becomeLike_88 : decode cX5_becomeLike 88 = .ok (.getfield 43, 3) := by decide +kernel
theorem dX5_becomeLike_91 : decode cX5_becomeLike 91 = .ok (.if_icmp .ge 45, 3) := by decide +kernel
theorem dX5_becomeLike_94 : decode cX5_becomeLike 94 = .ok (.aload_n 0, 1) := by decide +kernel
theorem dX5_becomeLike_95 : decode cX5_becomeLike 95 = .ok (.getfield 25, 3) := by decide +kernel
theorem dX5_becomeLike_98 : decode cX5_becomeLike 98 = .ok (.iload_n 2, 1) := by decide +kernel
theorem dX5_becomeLike_99 : decode cX5_becomeLike 99 = .ok (.aload_n 1, 1) := by decide +kernel
theorem dX5_becomeLike_100 : decode cX5_becomeLike 100 = .ok (.getfield 25, 3) := by decide +kernel
theorem dX5_becomeLike_103 : decode cX5_becomeLike 103 = .ok (.iload_n 2, 1) := by decide +kernel
theorem dX5_becomeLike_104 : decode cX5_becomeLike 104 = .ok (.iaload, 1) := by decide +kernel
theorem dX5_becomeLike_105 : decode cX5_becomeLike 105 = .ok (.iastore, 1) := by decide +kernel
theorem dX5_becomeLike_106 : decode cX5_becomeLike 106 = .ok (.aload_n 0, 1) := by decide +kernel
theorem dX5_becomeLike_107 : decode cX5_becomeLike 107 = .ok (.getfield 28, 3) := by decide +kernel
theorem dX5_becomeLike_110 : decode cX5_becomeLike 110 = .ok (.iload_n 2, 1) := by decide +kernel
theorem dX5_becomeLike_111 : decode cX5_becomeLike 111 = .ok (.aload_n 1, 1) := by decide +kernel
theorem dX5_becomeLike_112 : decode cX5_becomeLike 112 = .ok (.getfield 28, 3) := by decide +kernel
theorem dX5_becomeLike_115 : decode cX5_becomeLike 115 = .ok (.iload_n 2, 1) := by decide +kernel
theorem dX5_becomeLike_116 : decode cX5_becomeLike 116 = .ok (.iaload, 1) := by decide +kernel
theorem dX5_becomeLike_117 : decode cX5_becomeLike 117 = .ok (.iastore, 1) := by decide +kernel
theorem dX5_becomeLike_118 : decode cX5_becomeLike 118 = .ok (.aload_n 0, 1) := by decide +kernel
theorem dX5_becomeLike_119 : decode cX5_becomeLike 119 = .ok (.getfield 31, 3) := by decide +kernel
theorem dX5_becomeLike_122 : decode cX5_becomeLike 122 = .ok (.iload_n 2, 1) := by decide +kernel
theorem dX5_becomeLike_123 : decode cX5_becomeLike 123 = .ok (.aload_n 1, 1) := by decide +kernel
theorem dX5_becomeLike_124 : decode cX5_becomeLike 124 = .ok (.getfield 31, 3) := by decide +kernel
theorem dX5_becomeLike_127 : decode cX5_becomeLike 127 = .ok (.iload_n 2, 1) := by decide +kernel
theorem dX5_becomeLike_128 : decode cX5_becomeLike 128 = .ok (.iaload, 1) := by decide +kernel
theorem dX5_becomeLike_129 : decode cX5_becomeLike 129 = .ok (.iastore, 1) := by decide +kernel
theorem dX5_becomeLike_130 : decode cX5_becomeLike 130 = .ok (.iinc 2 1, 3) := by decide +kernel
theorem dX5_becomeLike_133 : decode cX5_becomeLike 133 = .ok (.goto (-47), 3) := by decide +kernel
theorem dX5_becomeLike_136 : decode cX5_becomeLike 136 = .ok (.iconst 0, 1) := by decide +kernel
theorem dX5_becomeLike_137 : decode cX5_becomeLike 137 = .ok (.istore_n 2, 1) := by decide +kernel
theorem dX5_becomeLike_138 : decode cX5_becomeLike 138 = .ok (.iload_n 2, 1) := by decide +kernel
theorem dX5_becomeLike_139 : decode cX5_becomeLike 139 = .ok (.aload_n 0, 1) := by decide +kernel
theorem dX5_becomeLike_140 : decode cX5_becomeLike 140 = .ok (.getfield 39, 3) := by decide +kernel
theorem dX5_becomeLike_143 : decode cX5_becomeLike 143 = .ok (.if_icmp .gt 30, 3) := by decide +kernel
theorem dX5_becomeLike_146 : decode cX5_becomeLike 146 = .ok (.aload_n 1, 1) := by decide +kernel
theorem dX5_becomeLike_147 : decode cX5_becomeLike 147 = .ok (.getfield 36, 3) := by decide +kernel
theorem dX5_becomeLike_150 : decode cX5_becomeLike 150 = .ok (.iload_n 2, 1) := by decide +kernel
theorem dX5_becomeLike_151 : decode cX5_becomeLike 151 = .ok (.aaload, 1) := by decide +kernel
theorem dX5_becomeLike_152 : decode cX5_becomeLike 152 = .ok (.iconst 0, 1) := by decide +kernel
theorem dX5_becomeLike_153 : decode cX5_becomeLike 153 = .ok (.aload_n 0, 1) := by decide +kernel
theorem dX5_becomeLike_154 : decode cX5_becomeLike 154 = .ok (.getfield 36, 3) := by decide +kernel
theorem dX5_becomeLike_157 : decode cX5_becomeLike 157 = .ok (.iload_n 2, 1) := by decide +kernel
theorem dX5_becomeLike_158 : decode cX5_becomeLike 158 = .ok (.aaload, 1) := by decide +kernel
theorem dX5_becomeLike_159 : decode cX5_becomeLike 159 = .ok (.iconst 0, 1) := by decide +kernel
theorem dX5_becomeLike_160 : decode cX5_becomeLike 160 = .ok (.aload_n 0, 1) := by decide +kernel
theorem dX5_becomeLike_161 : decode cX5_becomeLike 161 = .ok (.getfield 43, 3) := by decide +kernel
theorem dX5_becomeLike_164 : decode cX5_becomeLike 164 = .ok (.invokestatic 64, 3) := by decide +kernel
theorem dX5_becomeLike_167 : decode cX5_becomeLike 167 = .ok (.iinc 2 1, 3) := by decide +kernel
theorem dX5_becomeLike_170 : decode cX5_becomeLike 170 = .ok (.goto (-32), 3) := by decide +kernel
theorem dX5_becomeLike_173 : decode cX5_becomeLike 173 = .ok (.return_, 1) := by decide +kernel
theorem dX5_rideAll_0 : decode cX5_rideAll 0 = .ok (.aload_n 0, 1) := by decide +kernel
theorem dX5_rideAll_1 : decode cX5_rideAll 1 = .ok (.getfield 28, 3) := by decide +kernel
theorem dX5_rideAll_4 : decode cX5_rideAll 4 = .ok (.iconst 0, 1) := by decide +kernel
theorem dX5_rideAll_5 : decode cX5_rideAll 5 = .ok (.aload_n 0, 1) := by decide +kernel
theorem dX5_rideAll_6 : decode cX5_rideAll 6 = .ok (.getfield 36, 3) := by decide +kernel
theorem dX5_rideAll_9 : decode cX5_rideAll 9 = .ok (.iconst 0, 1) := by decide +kernel
theorem dX5_rideAll_10 : decode cX5_rideAll 10 = .ok (.aaload, 1) := by decide +kernel
theorem dX5_rideAll_11 : decode cX5_rideAll 11 = .ok (.iconst 0, 1) := by decide +kernel
theorem dX5_rideAll_12 : decode cX5_rideAll 12 = .ok (.aload_n 0, 1) := by decide +kernel
theorem dX5_rideAll_13 : decode cX5_rideAll 13 = .ok (.getfield 43, 3) := by decide +kernel
theorem dX5_rideAll_16 : decode cX5_rideAll 16 = .ok (.invokestatic 64, 3) := by decide +kernel
theorem dX5_rideAll_19 : decode cX5_rideAll 19 = .ok (.aload_n 0, 1) := by decide +kernel
theorem dX5_rideAll_20 : decode cX5_rideAll 20 = .ok (.iconst 0, 1) := by decide +kernel
theorem dX5_rideAll_21 : decode cX5_rideAll 21 = .ok (.invokevirtual 70, 3) := by decide +kernel
theorem dX5_rideAll_24 : decode cX5_rideAll 24 = .ok (.return_, 1) := by decide +kernel
theorem dX5_rideFrom_0 : decode cX5_rideFrom 0 = .ok (.iload_n 1, 1) := by decide +kernel
theorem dX5_rideFrom_1 : decode cX5_rideFrom 1 = .ok (.istore_n 2, 1) := by decide +kernel
theorem dX5_rideFrom_2 : decode cX5_rideFrom 2 = .ok (.iload_n 2, 1) := by decide +kernel
theorem dX5_rideFrom_3 : decode cX5_rideFrom 3 = .ok (.aload_n 0, 1) := by decide +kernel
theorem dX5_rideFrom_4 : decode cX5_rideFrom 4 = .ok (.getfield 39, 3) := by decide +kernel
theorem dX5_rideFrom_7 : decode cX5_rideFrom 7 = .ok (.if_icmp .ge 14, 3) := by decide +kernel
theorem dX5_rideFrom_10 : decode cX5_rideFrom 10 = .ok (.aload_n 0, 1) := by decide +kernel
theorem dX5_rideFrom_11 : decode cX5_rideFrom 11 = .ok (.iload_n 2, 1) := by decide +kernel
theorem dX5_rideFrom_12 : decode cX5_rideFrom 12 = .ok (.invokevirtual 74, 3) := by decide +kernel
theorem dX5_rideFrom_15 : decode cX5_rideFrom 15 = .ok (.iinc 2 1, 3) := by decide +kernel
theorem dX5_rideFrom_18 : decode cX5_rideFrom 18 = .ok (.goto (-16), 3) := by decide +kernel
theorem dX5_rideFrom_21 : decode cX5_rideFrom 21 = .ok (.return_, 1) := by decide +kernel
theorem dX5_digAndRide_0 : decode cX5_digAndRide 0 = .ok (.aload_n 0, 1) := by decide +kernel
theorem dX5_digAndRide_1 : decode cX5_digAndRide 1 = .ok (.getfield 39, 3) := by decide +kernel
theorem dX5_digAndRide_4 : decode cX5_digAndRide 4 = .ok (.istore_n 2, 1) := by decide +kernel
theorem dX5_digAndRide_5 : decode cX5_digAndRide 5 = .ok (.aload_n 0, 1) := by decide +kernel
theorem dX5_digAndRide_6 : decode cX5_digAndRide 6 = .ok (.getfield 39, 3) := by decide +kernel
theorem dX5_digAndRide_9 : decode cX5_digAndRide 9 = .ok (.iconst 1, 1) := by decide +kernel
theorem dX5_digAndRide_10 : decode cX5_digAndRide 10 = .ok (.isub, 1) := by decide +kernel
theorem dX5_digAndRide_11 : decode cX5_digAndRide 11 = .ok (.istore_n 3, 1) := by decide +kernel
theorem dX5_digAndRide_12 : decode cX5_digAndRide 12 = .ok (.iload_n 3, 1) := by decide +kernel
theorem dX5_digAndRide_13 : decode cX5_digAndRide 13 = .ok (.ifCond .lt 53, 3) := by decide +kernel
theorem dX5_digAndRide_16 : decode cX5_digAndRide 16 = .ok (.iload_n 1, 1) := by decide +kernel
theorem dX5_digAndRide_17 : decode cX5_digAndRide 17 = .ok (.aload_n 0, 1) := by decide +kernel
theorem dX5_digAndRide_18 : decode cX5_digAndRide 18 = .ok (.getfield 39, 3) := by decide +kernel
theorem dX5_digAndRide_21 : decode cX5_digAndRide 21 = .ok (.iconst 1, 1) := by decide +kernel
theorem dX5_digAndRide_22 : decode cX5_digAndRide 22 = .ok (.isub, 1) := by decide +kernel
theorem dX5_digAndRide_23 : decode cX5_digAndRide 23 = .ok (.iload_n 3, 1) := by decide +kernel
theorem dX5_digAndRide_24 : decode cX5_digAndRide 24 = .ok (.isub, 1) := by decide +kernel
theorem dX5_digAndRide_25 : decode cX5_digAndRide 25 = .ok (.ishr, 1) := by decide +kernel
theorem dX5_digAndRide_26 : decode cX5_digAndRide 26 = .ok (.iconst 1, 1) := by decide +kernel
theorem dX5_digAndRide_27 : decode cX5_digAndRide 27 = .ok (.iand, 1) := by decide +kernel
theorem dX5_digAndRide_28 : decode cX5_digAndRide 28 = .ok (.iconst 1, 1) := by decide +kernel
theorem dX5_digAndRide_29 : decode cX5_digAndRide 29 = .ok (.if_icmp .ne 7, 3) := by decide +kernel
theorem dX5_digAndRide_32 : decode cX5_digAndRide 32 = .ok (.iconst 1, 1) := by decide +kernel
theorem dX5_digAndRide_33 : decode cX5_digAndRide 33 = .ok (.goto 4, 3) := by decide +kernel
theorem dX5_digAndRide_36 : decode cX5_digAndRide 36 = .ok (.iconst 0, 1) := by decide +kernel
theorem dX5_digAndRide_37 : decode cX5_digAndRide 37 = .ok (.istore 4, 2) := by decide +kernel
theorem dX5_digAndRide_39 : decode cX5_digAndRide 39 = .ok (.aload_n 0, 1) := by decide +kernel
theorem dX5_digAndRide_40 : decode cX5_digAndRide 40 = .ok (.getfield 15, 3) := by decide +kernel
theorem dX5_digAndRide_43 : decode cX5_digAndRide 43 = .ok (.iload_n 3, 1) := by decide +kernel
theorem dX5_digAndRide_44 : decode cX5_digAndRide 44 = .ok (.baload, 1) := by decide +kernel
theorem dX5_digAndRide_45 : decode cX5_digAndRide 45 = .ok (.iload 4, 2) := by decide +kernel
theorem dX5_digAndRide_47 : decode cX5_digAndRide 47 = .ok (.if_icmp .eq 13, 3) := by decide +kernel
theorem dX5_digAndRide_50 : decode cX5_digAndRide 50 = .ok (.aload_n 0, 1) := by decide +kernel
theorem dX5_digAndRide_51 : decode cX5_digAndRide 51 = .ok (.getfield 15, 3) := by decide +kernel
theorem dX5_digAndRide_54 : decode cX5_digAndRide 54 = .ok (.iload_n 3, 1) := by decide +kernel
theorem dX5_digAndRide_55 : decode cX5_digAndRide 55 = .ok (.iload 4, 2) := by decide +kernel
theorem dX5_digAndRide_57 : decode cX5_digAndRide 57 = .ok (.bastore, 1) := by decide +kernel
theorem dX5_digAndRide_58 : decode cX5_digAndRide 58 = .ok (.iload_n 3, 1) := by decide +kernel
theorem dX5_digAndRide_59 : decode cX5_digAndRide 59 = .ok (.istore_n 2, 1) := by decide +kernel
theorem dX5_digAndRide_60 : decode cX5_digAndRide 60 = .ok (.iinc 3 (-1), 3) := by decide +kernel
theorem dX5_digAndRide_63 : decode cX5_digAndRide 63 = .ok (.goto (-51), 3) := by decide +kernel
theorem dX5_digAndRide_66 : decode cX5_digAndRide 66 = .ok (.aload_n 0, 1) := by decide +kernel
theorem dX5_digAndRide_67 : decode cX5_digAndRide 67 = .ok (.iload_n 2, 1) := by decide +kernel
theorem dX5_digAndRide_68 : decode cX5_digAndRide 68 = .ok (.invokevirtual 70, 3) := by decide +kernel
theorem dX5_digAndRide_71 : decode cX5_digAndRide 71 = .ok (.return_, 1) := by decide +kernel
theorem dX5_rideThrough_0 : decode cX5_rideThrough 0 = .ok (.aload_n 0, 1) := by decide +kernel
theorem dX5_rideThrough_1 : decode cX5_rideThrough 1 = .ok (.getfield 36, 3) := by decide +kernel
theorem dX5_rideThrough_4 : decode cX5_rideThrough 4 = .ok (.iload_n 1, 1) := by decide +kernel
theorem dX5_rideThrough_5 : decode cX5_rideThrough 5 = .ok (.iconst 1, 1) := by decide +kernel
theorem dX5_rideThrough_6 : decode cX5_rideThrough 6 = .ok (.iadd, 1) := by decide +kernel
theorem dX5_rideThrough_7 : decode cX5_rideThrough 7 = .ok (.aaload, 1) := by decide +kernel
theorem dX5_rideThrough_8 : decode cX5_rideThrough 8 = .ok (.astore_n 2, 1) := by decide +kernel
theorem dX5_rideThrough_9 : decode cX5_rideThrough 9 = .ok (.iconst 0, 1) := by decide +kernel
theorem dX5_rideThrough_10 : decode cX5_rideThrough 10 = .ok (.istore_n 3, 1) := by decide +kernel
theorem dX5_rideThrough_11 : decode cX5_rideThrough 11 = .ok (.iload_n 3, 1) := by decide +kernel
theorem dX5_rideThrough_12 : decode cX5_rideThrough 12 = .ok (.aload_n 0, 1) := by decide +kernel
theorem dX5_rideThrough_13 : decode cX5_rideThrough 13 = .ok (.getfield 43, 3) := by decide +kernel
theorem dX5_rideThrough_16 : decode cX5_rideThrough 16 = .ok (.if_icmp .ge 18, 3) := by decide +kernel
theorem dX5_rideThrough_19 : decode cX5_rideThrough 19 = .ok (.aload_n 2, 1) := by decide +kernel
theorem dX5_rideThrough_20 : decode cX5_rideThrough 20 = .ok (.iload_n 3, 1) := by decide +kernel
theorem dX5_rideThrough_21 : decode cX5_rideThrough 21 = .ok (.aload_n 0, 1) := by decide +kernel
theorem dX5_rideThrough_22 : decode cX5_rideThrough 22 = .ok (.iload_n 3, 1) := by decide +kernel
theorem dX5_rideThrough_23 : decode cX5_rideThrough 23 = .ok (.iload_n 1, 1) := by decide +kernel
theorem dX5_rideThrough_24 : decode cX5_rideThrough 24 = .ok (.invokevirtual 77, 3) := by decide +kernel
theorem dX5_rideThrough_27 : decode cX5_rideThrough 27 = .ok (.iastore, 1) := by decide +kernel
theorem dX5_rideThrough_28 : decode cX5_rideThrough 28 = .ok (.iinc 3 1, 3) := by decide +kernel
theorem dX5_rideThrough_31 : decode cX5_rideThrough 31 = .ok (.goto (-20), 3) := by decide +kernel
theorem dX5_rideThrough_34 : decode cX5_rideThrough 34 = .ok (.aload_n 0, 1) := by decide +kernel
theorem dX5_rideThrough_35 : decode cX5_rideThrough 35 = .ok (.getfield 19, 3) := by decide +kernel
theorem dX5_rideThrough_38 : decode cX5_rideThrough 38 = .ok (.iload_n 1, 1) := by decide +kernel
theorem dX5_rideThrough_39 : decode cX5_rideThrough 39 = .ok (.iaload, 1) := by decide +kernel
theorem dX5_rideThrough_40 : decode cX5_rideThrough 40 = .ok (.istore_n 3, 1) := by decide +kernel
theorem dX5_rideThrough_41 : decode cX5_rideThrough 41 = .ok (.aload_n 0, 1) := by decide +kernel
theorem dX5_rideThrough_42 : decode cX5_rideThrough 42 = .ok (.getfield 22, 3) := by decide +kernel
theorem dX5_rideThrough_45 : decode cX5_rideThrough 45 = .ok (.iload_n 1, 1) := by decide +kernel
theorem dX5_rideThrough_46 : decode cX5_rideThrough 46 = .ok (.iaload, 1) := by decide +kernel
theorem dX5_rideThrough_47 : decode cX5_rideThrough 47 = .ok (.istore 4, 2) := by decide +kernel
theorem dX5_rideThrough_49 : decode cX5_rideThrough 49 = .ok (.iload_n 3, 1) := by decide +kernel
theorem dX5_rideThrough_50 : decode cX5_rideThrough 50 = .ok (.bipush (-9), 2) := by decide +kernel
theorem dX5_rideThrough_52 : decode cX5_rideThrough 52 = .ok (.if_icmp .eq 33, 3) := by decide +kernel
theorem dX5_rideThrough_55 : decode cX5_rideThrough 55 = .ok (.iload 4, 2) := by decide +kernel
theorem dX5_rideThrough_57 : decode cX5_rideThrough 57 = .ok (.bipush (-9), 2) := by decide +kernel
theorem dX5_rideThrough_59 : decode cX5_rideThrough 59 = .ok (.if_icmp .eq 26, 3) := by decide +kernel
theorem dX5_rideThrough_62 : decode cX5_rideThrough 62 = .ok (.aload_n 2, 1) := by decide +kernel
theorem dX5_rideThrough_63 : decode cX5_rideThrough 63 = .ok (.iload_n 3, 1) := by decide +kernel
theorem dX5_rideThrough_64 : decode cX5_rideThrough 64 = .ok (.iaload, 1) := by decide +kernel
theorem dX5_rideThrough_65 : decode cX5_rideThrough 65 = .ok (.aload_n 2, 1) := by decide +kernel
theorem dX5_rideThrough_66 : decode cX5_rideThrough 66 = .ok (.iload 4, 2) := by decide +kernel
theorem dX5_rideThrough_68 : decode cX5_rideThrough 68 = .ok (.iaload, 1) := by decide +kernel
theorem dX5_rideThrough_69 : decode cX5_rideThrough 69 = .ok (.iadd, 1) := by decide +kernel
theorem dX5_rideThrough_70 : decode cX5_rideThrough 70 = .ok (.iconst 2, 1) := by decide +kernel
theorem dX5_rideThrough_71 : decode cX5_rideThrough 71 = .ok (.idiv, 1) := by decide +kernel
theorem dX5_rideThrough_72 : decode cX5_rideThrough 72 = .ok (.istore 5, 2) := by decide +kernel
theorem dX5_rideThrough_74 : decode cX5_rideThrough 74 = .ok (.aload_n 2, 1) := by decide +kernel
theorem dX5_rideThrough_75 : decode cX5_rideThrough 75 = .ok (.iload_n 3, 1) := by decide +kernel
theorem dX5_rideThrough_76 : decode cX5_rideThrough 76 = .ok (.iload 5, 2) := by decide +kernel
theorem dX5_rideThrough_78 : decode cX5_rideThrough 78 = .ok (.iastore, 1) := by decide +kernel
theorem dX5_rideThrough_79 : decode cX5_rideThrough 79 = .ok (.aload_n 2, 1) := by decide +kernel
theorem dX5_rideThrough_80 : decode cX5_rideThrough 80 = .ok (.iload 4, 2) := by decide +kernel
theorem dX5_rideThrough_82 : decode cX5_rideThrough 82 = .ok (.iload 5, 2) := by decide +kernel
theorem dX5_rideThrough_84 : decode cX5_rideThrough 84 = .ok (.iastore, 1) := by decide +kernel
theorem dX5_rideThrough_85 : decode cX5_rideThrough 85 = .ok (.return_, 1) := by decide +kernel
theorem dX5_regretBehind_0 : decode cX5_regretBehind 0 = .ok (.aload_n 0, 1) := by decide +kernel
theorem dX5_regretBehind_1 : decode cX5_regretBehind 1 = .ok (.getfield 36, 3) := by decide +kernel
theorem dX5_regretBehind_4 : decode cX5_regretBehind 4 = .ok (.iload_n 2, 1) := by decide +kernel
theorem dX5_regretBehind_5 : decode cX5_regretBehind 5 = .ok (.aaload, 1) := by decide +kernel
theorem dX5_regretBehind_6 : decode cX5_regretBehind 6 = .ok (.iload_n 1, 1) := by decide +kernel
theorem dX5_regretBehind_7 : decode cX5_regretBehind 7 = .ok (.iaload, 1) := by decide +kernel
theorem dX5_regretBehind_8 : decode cX5_regretBehind 8 = .ok (.istore_n 3, 1) := by decide +kernel
theorem dX5_regretBehind_9 : decode cX5_regretBehind 9 = .ok (.aload_n 0, 1) := by decide +kernel
theorem dX5_regretBehind_10 : decode cX5_regretBehind 10 = .ok (.getfield 15, 3) := by decide +kernel
theorem dX5_regretBehind_13 : decode cX5_regretBehind 13 = .ok (.iload_n 2, 1) := by decide +kernel
theorem dX5_regretBehind_14 : decode cX5_regretBehind 14 = .ok (.baload, 1) := by decide +kernel
theorem dX5_regretBehind_15 : decode cX5_regretBehind 15 = .ok (.ifCond .eq 27, 3) := by decide +kernel
theorem dX5_regretBehind_18 : decode cX5_regretBehind 18 = .ok (.bipush 99, 2) := by decide +kernel
theorem dX5_regretBehind_20 : decode cX5_regretBehind 20 = .ok (.iload_n 3, 1) := by decide +kernel
theorem dX5_regretBehind_21 : decode cX5_regretBehind 21 = .ok (.aload_n 0, 1) := by decide +kernel
theorem dX5_regretBehind_22 : decode cX5_regretBehind 22 = .ok (.getfield 25, 3) := by decide +kernel
theorem dX5_regretBehind_25 : decode cX5_regretBehind 25 = .ok (.iload_n 1, 1) := by decide +kernel
theorem dX5_regretBehind_26 : decode cX5_regretBehind 26 = .ok (.iaload, 1) := by decide +kernel
theorem dX5_regretBehind_27 : decode cX5_regretBehind 27 = .ok (.iconst 2, 1) := by decide +kernel
theorem dX5_regretBehind_28 : decode cX5_regretBehind 28 = .ok (.if_icmp .ne 8, 3) := by decide +kernel
theorem dX5_regretBehind_31 : decode cX5_regretBehind 31 = .ok (.bipush 10, 2) := by decide +kernel
theorem dX5_regretBehind_33 : decode cX5_regretBehind 33 = .ok (.goto 4, 3) := by decide +kernel
theorem dX5_regretBehind_36 : decode cX5_regretBehind 36 = .ok (.iconst 5, 1) := by decide +kernel
theorem dX5_regretBehind_37 : decode cX5_regretBehind 37 = .ok (.iadd, 1) := by decide +kernel
theorem dX5_regretBehind_38 : decode cX5_regretBehind 38 = .ok (.invokestatic 81, 3) := by decide +kernel
theorem dX5_regretBehind_41 : decode cX5_regretBehind 41 = .ok (.ireturn, 1) := by decide +kernel
theorem dX5_regretBehind_42 : decode cX5_regretBehind 42 = .ok (.aload_n 0, 1) := by decide +kernel
theorem dX5_regretBehind_43 : decode cX5_regretBehind 43 = .ok (.getfield 25, 3) := by decide +kernel
theorem dX5_regretBehind_46 : decode cX5_regretBehind 46 = .ok (.iload_n 1, 1) := by decide +kernel
theorem dX5_regretBehind_47 : decode cX5_regretBehind 47 = .ok (.iaload, 1) := by decide +kernel
theorem dX5_regretBehind_48 : decode cX5_regretBehind 48 = .ok (.iconst 1, 1) := by decide +kernel
theorem dX5_regretBehind_49 : decode cX5_regretBehind 49 = .ok (.if_icmp .ne 18, 3) := by decide +kernel
theorem dX5_regretBehind_52 : decode cX5_regretBehind 52 = .ok (.iconst 0, 1) := by decide +kernel
theorem dX5_regretBehind_53 : decode cX5_regretBehind 53 = .ok (.aload_n 0, 1) := by decide +kernel
theorem dX5_regretBehind_54 : decode cX5_regretBehind 54 = .ok (.getfield 31, 3) := by decide +kernel
theorem dX5_regretBehind_57 : decode cX5_regretBehind 57 = .ok (.iload_n 1, 1) := by decide +kernel
theorem dX5_regretBehind_58 : decode cX5_regretBehind 58 = .ok (.iaload, 1) := by decide +kernel
theorem dX5_regretBehind_59 : decode cX5_regretBehind 59 = .ok (.iconst 1, 1) := by decide +kernel
theorem dX5_regretBehind_60 : decode cX5_regretBehind 60 = .ok (.isub, 1) := by decide +kernel
theorem dX5_regretBehind_61 : decode cX5_regretBehind 61 = .ok (.invokestatic 86, 3) := by decide +kernel
theorem dX5_regretBehind_64 : decode cX5_regretBehind 64 = .ok (.goto 9, 3) := by decide +kernel
theorem dX5_regretBehind_67 : decode cX5_regretBehind 67 = .ok (.aload_n 0, 1) := by decide +kernel
theorem dX5_regretBehind_68 : decode cX5_regretBehind 68 = .ok (.getfield 31, 3) := by decide +kernel
theorem dX5_regretBehind_71 : decode cX5_regretBehind 71 = .ok (.iload_n 1, 1) := by decide +kernel
theorem dX5_regretBehind_72 : decode cX5_regretBehind 72 = .ok (.iaload, 1) := by decide +kernel
theorem dX5_regretBehind_73 : decode cX5_regretBehind 73 = .ok (.istore 4, 2) := by decide +kernel
theorem dX5_regretBehind_75 : decode cX5_regretBehind 75 = .ok (.iconst 0, 1) := by decide +kernel
theorem dX5_regretBehind_76 : decode cX5_regretBehind 76 = .ok (.iload_n 3, 1) := by decide +kernel
theorem dX5_regretBehind_77 : decode cX5_regretBehind 77 = .ok (.iload 4, 2) := by decide +kernel
theorem dX5_regretBehind_79 : decode cX5_regretBehind 79 = .ok (.isub, 1) := by decide +kernel
theorem dX5_regretBehind_80 : decode cX5_regretBehind 80 = .ok (.invokestatic 86, 3) := by decide +kernel
theorem dX5_regretBehind_83 : decode cX5_regretBehind 83 = .ok (.ireturn, 1) := by decide +kernel
theorem dX5_regretAhead_0 : decode cX5_regretAhead 0 = .ok (.aload_n 0, 1) := by decide +kernel
theorem dX5_regretAhead_1 : decode cX5_regretAhead 1 = .ok (.getfield 36, 3) := by decide +kernel
theorem dX5_regretAhead_4 : decode cX5_regretAhead 4 = .ok (.iload_n 2, 1) := by decide +kernel
theorem dX5_regretAhead_5 : decode cX5_regretAhead 5 = .ok (.aaload, 1) := by decide +kernel
theorem dX5_regretAhead_6 : decode cX5_regretAhead 6 = .ok (.iload_n 1, 1) := by decide +kernel
theorem dX5_regretAhead_7 : decode cX5_regretAhead 7 = .ok (.iaload, 1) := by decide +kernel
theorem dX5_regretAhead_8 : decode cX5_regretAhead 8 = .ok (.ireturn, 1) := by decide +kernel
theorem dX5_classDue_0 : decode cX5_classDue 0 = .ok (.aload_n 0, 1) := by decide +kernel
theorem dX5_classDue_1 : decode cX5_classDue 1 = .ok (.getfield 36, 3) := by decide +kernel
theorem dX5_classDue_4 : decode cX5_classDue 4 = .ok (.iload_n 2, 1) := by decide +kernel
theorem dX5_classDue_5 : decode cX5_classDue 5 = .ok (.aaload, 1) := by decide +kernel
theorem dX5_classDue_6 : decode cX5_classDue 6 = .ok (.iload_n 1, 1) := by decide +kernel
theorem dX5_classDue_7 : decode cX5_classDue 7 = .ok (.iaload, 1) := by decide +kernel
theorem dX5_classDue_8 : decode cX5_classDue 8 = .ok (.istore_n 3, 1) := by decide +kernel
theorem dX5_classDue_9 : decode cX5_classDue 9 = .ok (.iload_n 3, 1) := by decide +kernel
theorem dX5_classDue_10 : decode cX5_classDue 10 = .ok (.aload_n 0, 1) := by decide +kernel
theorem dX5_classDue_11 : decode cX5_classDue 11 = .ok (.getfield 46, 3) := by decide +kernel
theorem dX5_classDue_14 : decode cX5_classDue 14 = .ok (.if_icmp .ge 5, 3) := by decide +kernel
theorem dX5_classDue_17 : decode cX5_classDue 17 = .ok (.iconst 0, 1) := by decide +kernel
theorem dX5_classDue_18 : decode cX5_classDue 18 = .ok (.ireturn, 1) := by decide +kernel
theorem dX5_classDue_19 : decode cX5_classDue 19 = .ok (.iload_n 3, 1) := by decide +kernel
theorem dX5_classDue_20 : decode cX5_classDue 20 = .ok (.aload_n 0, 1) := by decide +kernel
theorem dX5_classDue_21 : decode cX5_classDue 21 = .ok (.getfield 49, 3) := by decide +kernel
theorem dX5_classDue_24 : decode cX5_classDue 24 = .ok (.if_icmp .ge 7, 3) := by decide +kernel
theorem dX5_classDue_27 : decode cX5_classDue 27 = .ok (.iconst 1, 1) := by decide +kernel
theorem dX5_classDue_28 : decode cX5_classDue 28 = .ok (.goto 4, 3) := by decide +kernel
theorem dX5_classDue_31 : decode cX5_classDue 31 = .ok (.iconst 2, 1) := by decide +kernel
theorem dX5_classDue_32 : decode cX5_classDue 32 = .ok (.ireturn, 1) := by decide +kernel
theorem dX5_dueTogether_0 : decode cX5_dueTogether 0 = .ok (.iconst 0, 1) := by decide +kernel
theorem dX5_dueTogether_1 : decode cX5_dueTogether 1 = .ok (.istore_n 2, 1) := by decide +kernel
theorem dX5_dueTogether_2 : decode cX5_dueTogether 2 = .ok (.iconst 0, 1) := by decide +kernel
theorem dX5_dueTogether_3 : decode cX5_dueTogether 3 = .ok (.istore_n 3, 1) := by decide +kernel
theorem dX5_dueTogether_4 : decode cX5_dueTogether 4 = .ok (.iload_n 3, 1) := by decide +kernel
theorem dX5_dueTogether_5 : decode cX5_dueTogether 5 = .ok (.aload_n 0, 1) := by decide +kernel
theorem dX5_dueTogether_6 : decode cX5_dueTogether 6 = .ok (.getfield 39, 3) := by decide +kernel
theorem dX5_dueTogether_9 : decode cX5_dueTogether 9 = .ok (.if_icmp .ge 18, 3) := by decide +kernel
theorem dX5_dueTogether_12 : decode cX5_dueTogether 12 = .ok (.iload_n 2, 1) := by decide +kernel
theorem dX5_dueTogether_13 : decode cX5_dueTogether 13 = .ok (.aload_n 0, 1) := by decide +kernel
theorem dX5_dueTogether_14 : decode cX5_dueTogether 14 = .ok (.iload_n 1, 1) := by decide +kernel
theorem dX5_dueTogether_15 : decode cX5_dueTogether 15 = .ok (.iload_n 3, 1) := by decide +kernel
theorem dX5_dueTogether_16 : decode cX5_dueTogether 16 = .ok (.invokevirtual 89, 3) := by decide +kernel
theorem dX5_dueTogether_19 : decode cX5_dueTogether 19 = .ok (.iadd, 1) := by decide +kernel
theorem dX5_dueTogether_20 : decode cX5_dueTogether 20 = .ok (.istore_n 2, 1) := by decide +kernel
theorem dX5_dueTogether_21 : decode cX5_dueTogether 21 = .ok (.iinc 3 1, 3) := by decide +kernel
theorem dX5_dueTogether_24 : decode cX5_dueTogether 24 = .ok (.goto (-20), 3) := by decide +kernel
theorem dX5_dueTogether_27 : decode cX5_dueTogether 27 = .ok (.iload_n 2, 1) := by decide +kernel
theorem dX5_dueTogether_28 : decode cX5_dueTogether 28 = .ok (.ireturn, 1) := by decide +kernel
theorem dX6_init_0 : decode cX6_init 0 = .ok (.aload_n 0, 1) := by decide +kernel
theorem dX6_init_1 : decode cX6_init 1 = .ok (.invokespecial 3, 3) := by decide +kernel
theorem dX6_init_4 : decode cX6_init 4 = .ok (.aload_n 0, 1) := by decide +kernel
theorem dX6_init_5 : decode cX6_init 5 = .ok (.iconst 4, 1) := by decide +kernel
theorem dX6_init_6 : decode cX6_init 6 = .ok (.anewarray 11, 3) := by decide +kernel
theorem dX6_init_9 : decode cX6_init 9 = .ok (.putfield 13, 3) := by decide +kernel
theorem dX6_init_12 : decode cX6_init 12 = .ok (.iconst 0, 1) := by decide +kernel
theorem dX6_init_13 : decode cX6_init 13 = .ok (.istore_n 1, 1) := by decide +kernel
theorem dX6_init_14 : decode cX6_init 14 = .ok (.iload_n 1, 1) := by decide +kernel
theorem dX6_init_15 : decode cX6_init 15 = .ok (.iconst 4, 1) := by decide +kernel
theorem dX6_init_16 : decode cX6_init 16 = .ok (.if_icmp .ge 22, 3) := by decide +kernel
theorem dX6_init_19 : decode cX6_init 19 = .ok (.aload_n 0, 1) := by decide +kernel
theorem dX6_init_20 : decode cX6_init 20 = .ok (.getfield 13, 3) := by decide +kernel
theorem dX6_init_23 : decode cX6_init 23 = .ok (.iload_n 1, 1) := by decide +kernel
theorem dX6_init_24 : decode cX6_init 24 = .ok (.new 11, 3) := by decide +kernel
theorem dX6_init_27 : decode cX6_init 27 = .ok (.dup, 1) := by decide +kernel
theorem dX6_init_28 : decode cX6_init 28 = .ok (.invokespecial 17, 3) := by decide +kernel
theorem dX6_init_31 : decode cX6_init 31 = .ok (.aastore, 1) := by decide +kernel
theorem dX6_init_32 : decode cX6_init 32 = .ok (.iinc 1 1, 3) := by decide +kernel
theorem dX6_init_35 : decode cX6_init 35 = .ok (.goto (-21), 3) := by decide +kernel
theorem dX6_init_38 : decode cX6_init 38 = .ok (.aload_n 0, 1) := by decide +kernel
theorem dX6_init_39 : decode cX6_init 39 = .ok (.new 18, 3) := by decide +kernel
theorem dX6_init_42 : decode cX6_init 42 = .ok (.dup, 1) := by decide +kernel
theorem dX6_init_43 : decode cX6_init 43 = .ok (.invokespecial 20, 3) := by decide +kernel
theorem dX6_init_46 : decode cX6_init 46 = .ok (.putfield 21, 3) := by decide +kernel
theorem dX6_init_49 : decode cX6_init 49 = .ok (.aload_n 0, 1) := by decide +kernel
theorem dX6_init_50 : decode cX6_init 50 = .ok (.new 18, 3) := by decide +kernel
theorem dX6_init_53 : decode cX6_init 53 = .ok (.dup, 1) := by decide +kernel
theorem dX6_init_54 : decode cX6_init 54 = .ok (.invokespecial 20, 3) := by decide +kernel
theorem dX6_init_57 : decode cX6_init 57 = .ok (.putfield 25, 3) := by decide +kernel
theorem dX6_init_60 : decode cX6_init 60 = .ok (.aload_n 0, 1) := by decide +kernel
theorem dX6_init_61 : decode cX6_init 61 = .ok (.new 28, 3) := by decide +kernel
theorem dX6_init_64 : decode cX6_init 64 = .ok (.dup, 1) := by decide +kernel
theorem dX6_init_65 : decode cX6_init 65 = .ok (.invokespecial 30, 3) := by decide +kernel
theorem dX6_init_68 : decode cX6_init 68 = .ok (.putfield 31, 3) := by decide +kernel
theorem dX6_init_71 : decode cX6_init 71 = .ok (.aload_n 0, 1) := by decide +kernel
theorem dX6_init_72 : decode cX6_init 72 = .ok (.new 35, 3) := by decide +kernel
theorem dX6_init_75 : decode cX6_init 75 = .ok (.dup, 1) := by decide +kernel
theorem dX6_init_76 : decode cX6_init 76 = .ok (.aload_n 0, 1) := by decide +kernel
theorem dX6_init_77 : decode cX6_init 77 = .ok (.getfield 21, 3) := by decide +kernel
theorem dX6_init_80 : decode cX6_init 80 = .ok (.invokespecial 37, 3) := by decide +kernel
theorem dX6_init_83 : decode cX6_init 83 = .ok (.putfield 40, 3) := by decide +kernel
theorem dX6_init_86 : decode cX6_init 86 = .ok (.aload_n 0, 1) := by decide +kernel
theorem dX6_init_87 : decode cX6_init 87 = .ok (.new 44, 3) := by decide +kernel
theorem dX6_init_90 : decode cX6_init 90 = .ok (.dup, 1) := by decide +kernel
theorem dX6_init_91 : decode cX6_init 91 = .ok (.aload_n 0, 1) := by decide +kernel
theorem dX6_init_92 : decode cX6_init 92 = .ok (.getfield 21, 3) := by decide +kernel
theorem dX6_init_95 : decode cX6_init 95 = .ok (.invokespecial 46, 3) := by decide +kernel
theorem dX6_init_98 : decode cX6_init 98 = .ok (.putfield 47, 3) := by decide +kernel
theorem dX6_init_101 : decode cX6_init 101 = .ok (.aload_n 0, 1) := by decide +kernel
theorem dX6_init_102 : decode cX6_init 102 = .ok (.iconst 0, 1) := by decide +kernel
theorem dX6_init_103 : decode cX6_init 103 = .ok (.putfield 51, 3) := by decide +kernel
theorem dX6_init_106 : decode cX6_init 106 = .ok (.aload_n 0, 1) := by decide +kernel
theorem dX6_init_107 : decode cX6_init 107 = .ok (.iconst 0, 1) := by decide +kernel
theorem dX6_init_108 : decode cX6_init 108 = .ok (.putfield 55, 3) := by decide +kernel
theorem dX6_init_111 : decode cX6_init 111 = .ok (.aload_n 0, 1) := by decide +kernel
theorem dX6_init_112 : decode cX6_init 112 = .ok (.iconst 0, 1) := by decide +kernel
theorem dX6_init_113 : decode cX6_init 113 = .ok (.putfield 59, 3) := by decide +kernel
theorem dX6_init_116 : decode cX6_init 116 = .ok (.return_, 1) := by decide +kernel
theorem dX6_line_0 : decode cX6_line 0 = .ok (.aload_n 0, 1) := by decide +kernel
theorem dX6_line_1 : decode cX6_line 1 = .ok (.iconst 0, 1) := by decide +kernel
theorem dX6_line_2 : decode cX6_line 2 = .ok (.putfield 59, 3) := by decide +kernel
theorem dX6_line_5 : decode cX6_line 5 = .ok (.iload_n 1, 1) := by decide +kernel
theorem dX6_line_6 : decode cX6_line 6 = .ok (.invokestatic 62, 3) := by decide +kernel
theorem dX6_line_9 : decode cX6_line 9 = .ok (.ifCond .eq 5, 3) := by decide +kernel
theorem dX6_line_12 : decode cX6_line 12 = .ok (.iconst (-1), 1) := by decide +kernel
theorem dX6_line_13 : decode cX6_line 13 = .ok (.ireturn, 1) := by decide +kernel
theorem dX6_line_14 : decode cX6_line 14 = .ok (.iload_n 2, 1) := by decide +kernel
theorem dX6_line_15 : decode cX6_line 15 = .ok (.invokestatic 66, 3) := by decide +kernel
theorem dX6_line_18 : decode cX6_line 18 = .ok (.ifCond .eq 6, 3) := by decide +kernel
theorem dX6_line_21 : decode cX6_line 21 = .ok (.bipush (-2), 2) := by decide +kernel
theorem dX6_line_23 : decode cX6_line 23 = .ok (.ireturn, 1) := by decide +kernel
theorem dX6_line_24 : decode cX6_line 24 = .ok (.aload_n 0, 1) := by decide +kernel
theorem dX6_line_25 : decode cX6_line 25 = .ok (.aload_n 0, 1) := by decide +kernel
theorem dX6_line_26 : decode cX6_line 26 = .ok (.getfield 13, 3) := by decide +kernel
theorem dX6_line_29 : decode cX6_line 29 = .ok (.iload_n 1, 1) := by decide +kernel
theorem dX6_line_30 : decode cX6_line 30 = .ok (.aaload, 1) := by decide +kernel
theorem dX6_line_31 : decode cX6_line 31 = .ok (.iload_n 2, 1) := by decide +kernel
theorem dX6_line_32 : decode cX6_line 32 = .ok (.iload_n 3, 1) := by decide +kernel
theorem dX6_line_33 : decode cX6_line 33 = .ok (.iload 4, 2) := by decide +kernel
theorem dX6_line_35 : decode cX6_line 35 = .ok (.invokevirtual 69, 3) := by decide +kernel
theorem dX6_line_38 : decode cX6_line 38 = .ok (.putfield 59, 3) := by decide +kernel
theorem dX6_line_41 : decode cX6_line 41 = .ok (.aload_n 0, 1) := by decide +kernel
theorem dX6_line_42 : decode cX6_line 42 = .ok (.getfield 59, 3) := by decide +kernel
theorem dX6_line_45 : decode cX6_line 45 = .ok (.ifCond .eq 11, 3) := by decide +kernel
theorem dX6_line_48 : decode cX6_line 48 = .ok (.bipush (-10), 2) := by decide +kernel
theorem dX6_line_50 : decode cX6_line 50 = .ok (.aload_n 0, 1) := by decide +kernel
theorem dX6_line_51 : decode cX6_line 51 = .ok (.getfield 59, 3) := by decide +kernel
theorem dX6_line_54 : decode cX6_line 54 = .ok (.isub, 1) := by decide +kernel
theorem dX6_line_55 : decode cX6_line 55 = .ok (.ireturn, 1) := by decide +kernel
theorem dX6_line_56 : decode cX6_line 56 = .ok (.aload_n 0, 1) := by decide +kernel
theorem dX6_line_57 : decode cX6_line 57 = .ok (.getfield 13, 3) := by decide +kernel
theorem dX6_line_60 : decode cX6_line 60 = .ok (.iload_n 1, 1) := by decide +kernel
theorem dX6_line_61 : decode cX6_line 61 = .ok (.aaload, 1) := by decide +kernel
theorem dX6_line_62 : decode cX6_line 62 = .ok (.getfield 73, 3) := by decide +kernel
theorem dX6_line_65 : decode cX6_line 65 = .ok (.astore 5, 2) := by decide +kernel
theorem dX6_line_67 : decode cX6_line 67 = .ok (.aload 5, 2) := by decide +kernel
theorem dX6_line_69 : decode cX6_line 69 = .ok (.iload_n 3, 1) := by decide +kernel
theorem dX6_line_70 : decode cX6_line 70 = .ok (.iload 4, 2) := by decide +kernel
theorem dX6_line_72 : decode cX6_line 72 = .ok (.invokestatic 77, 3) := by decide +kernel
theorem dX6_line_75 : decode cX6_line 75 = .ok (.istore 6, 2) := by decide +kernel
theorem dX6_line_77 : decode cX6_line 77 = .ok (.iload 6, 2) := by decide +kernel
theorem dX6_line_79 : decode cX6_line 79 = .ok (.iconst (-1), 1) := by decide +kernel
theorem dX6_line_80 : decode cX6_line 80 = .ok (.if_icmp .eq 9, 3) := by decide +kernel
theorem dX6_line_83 : decode cX6_line 83 = .ok (.bipush (-100), 2) := by decide +kernel
theorem dX6_line_85 : decode cX6_line 85 = .ok (.iload 6, 2) := by decide +kernel
theorem dX6_line_87 : decode cX6_line 87 = .ok (.isub, 1) := by decide +kernel
theorem dX6_line_88 : decode cX6_line 88 = .ok (.ireturn, 1) := by decide +kernel
theorem dX6_line_89 : decode cX6_line 89 = .ok (.aload_n 0, 1) := by decide +kernel
theorem dX6_line_90 : decode cX6_line 90 = .ok (.getfield 21, 3) := by decide +kernel
theorem dX6_line_93 : decode cX6_line 93 = .ok (.aload 5, 2) := by decide +kernel
theorem dX6_line_95 : decode cX6_line 95 = .ok (.iload_n 3, 1) := by decide +kernel
theorem dX6_line_96 : decode cX6_line 96 = .ok (.iload 4, 2) := by decide +kernel
theorem dX6_line_98 : decode cX6_line 98 = .ok (.invokevirtual 83, 3) := by decide +kernel
theorem dX6_line_101 : decode cX6_line 101 = .ok (.aload_n 0, 1) := by decide +kernel
theorem dX6_line_102 : decode cX6_line 102 = .ok (.getfield 31, 3) := by decide +kernel
theorem dX6_line_105 : decode cX6_line 105 = .ok (.iconst 0, 1) := by decide +kernel
theorem dX6_line_106 : decode cX6_line 106 = .ok (.putfield 87, 3) := by decide +kernel
theorem dX6_line_109 : decode cX6_line 109 = .ok (.aload_n 0, 1) := by decide +kernel
theorem dX6_line_110 : decode cX6_line 110 = .ok (.invokevirtual 90, 3) := by decide +kernel
theorem dX6_line_113 : decode cX6_line 113 = .ok (.aload_n 0, 1) := by decide +kernel
theorem dX6_line_114 : decode cX6_line 114 = .ok (.getfield 21, 3) := by decide +kernel
theorem dX6_line_117 : decode cX6_line 117 = .ok (.getfield 93, 3) := by decide +kernel
theorem dX6_line_120 : decode cX6_line 120 = .ok (.ireturn, 1) := by decide +kernel
theorem dX6_ofPassenger_0 : decode cX6_ofPassenger 0 = .ok (.aload_n 0, 1) := by decide +kernel
theorem dX6_ofPassenger_1 : decode cX6_ofPassenger 1 = .ok (.iload_n 1, 1) := by decide +kernel
theorem dX6_ofPassenger_2 : decode cX6_ofPassenger 2 = .ok (.invokevirtual 96, 3) := by decide +kernel
theorem dX6_ofPassenger_5 : decode cX6_ofPassenger 5 = .ok (.ifCond .eq 5, 3) := by decide +kernel
theorem dX6_ofPassenger_8 : decode cX6_ofPassenger 8 = .ok (.iconst (-1), 1) := by decide +kernel
theorem dX6_ofPassenger_9 : decode cX6_ofPassenger 9 = .ok (.ireturn, 1) := by decide +kernel
theorem dX6_ofPassenger_10 : decode cX6_ofPassenger 10 = .ok (.iload_n 2, 1) := by decide +kernel
theorem dX6_ofPassenger_11 : decode cX6_ofPassenger 11 = .ok (.tableswitch 55 0 2 #[25, 35, 45], 25) := by decide +kernel
theorem dX6_ofPassenger_36 : decode cX6_ofPassenger 36 = .ok (.aload_n 0, 1) := by decide +kernel
theorem dX6_ofPassenger_37 : decode cX6_ofPassenger 37 = .ok (.getfield 21, 3) := by decide +kernel
theorem dX6_ofPassenger_40 : decode cX6_ofPassenger 40 = .ok (.getfield 99, 3) := by decide +kernel
theorem dX6_ofPassenger_43 : decode cX6_ofPassenger 43 = .ok (.iload_n 1, 1) := by decide +kernel
theorem dX6_ofPassenger_44 : decode cX6_ofPassenger 44 = .ok (.iaload, 1) := by decide +kernel
theorem dX6_ofPassenger_45 : decode cX6_ofPassenger 45 = .ok (.ireturn, 1) := by decide +kernel
theorem dX6_ofPassenger_46 : decode cX6_ofPassenger 46 = .ok (.aload_n 0, 1) := by decide +kernel
theorem dX6_ofPassenger_47 : decode cX6_ofPassenger 47 = .ok (.getfield 21, 3) := by decide +kernel
theorem dX6_ofPassenger_50 : decode cX6_ofPassenger 50 = .ok (.getfield 102, 3) := by decide +kernel
theorem dX6_ofPassenger_53 : decode cX6_ofPassenger 53 = .ok (.iload_n 1, 1) := by decide +kernel
theorem dX6_ofPassenger_54 : decode cX6_ofPassenger 54 = .ok (.iaload, 1) := by decide +kernel
theorem dX6_ofPassenger_55 : decode cX6_ofPassenger 55 = .ok (.ireturn, 1) := by decide +kernel
theorem dX6_ofPassenger_56 : decode cX6_ofPassenger 56 = .ok (.aload_n 0, 1) := by decide +kernel
theorem dX6_ofPassenger_57 : decode cX6_ofPassenger 57 = .ok (.getfield 21, 3) := by decide +kernel
theorem dX6_ofPassenger_60 : decode cX6_ofPassenger 60 = .ok (.getfield 105, 3) := by decide +kernel
theorem dX6_ofPassenger_63 : decode cX6_ofPassenger 63 = .ok (.iload_n 1, 1) := by decide +kernel
theorem dX6_ofPassenger_64 : decode cX6_ofPassenger 64 = .ok (.iaload, 1) := by decide +kernel
theorem dX6_ofPassenger_65 : decode cX6_ofPassenger 65 = .ok (.ireturn, 1) := by decide +kernel
theorem dX6_ofPassenger_66 : decode cX6_ofPassenger 66 = .ok (.bipush (-2), 2) := by decide +kernel
theorem dX6_ofPassenger_68 : decode cX6_ofPassenger 68 = .ok (.ireturn, 1) := by decide +kernel
theorem dX6_seats_0 : decode cX6_seats 0 = .ok (.aload_n 0, 1) := by decide +kernel
theorem dX6_seats_1 : decode cX6_seats 1 = .ok (.invokevirtual 108, 3) := by decide +kernel
theorem dX6_seats_4 : decode cX6_seats 4 = .ok (.ifCond .eq 6, 3) := by decide +kernel
theorem dX6_seats_7 : decode cX6_seats 7 = .ok (.bipush (-3), 2) := by decide +kernel
theorem dX6_seats_9 : decode cX6_seats 9 = .ok (.ireturn, 1) := by decide +kernel
theorem dX6_seats_10 : decode cX6_seats 10 = .ok (.iload_n 1, 1) := by decide +kernel
theorem dX6_seats_11 : decode cX6_seats 11 = .ok (.invokestatic 112, 3) := by decide +kernel
theorem dX6_seats_14 : decode cX6_seats 14 = .ok (.ifCond .ne 12, 3) := by decide +kernel
theorem dX6_seats_17 : decode cX6_seats 17 = .ok (.iload_n 2, 1) := by decide +kernel
theorem dX6_seats_18 : decode cX6_seats 18 = .ok (.ifCond .lt 8, 3) := by decide +kernel
theorem dX6_seats_21 : decode cX6_seats 21 = .ok (.iload_n 2, 1) := by decide +kernel
theorem dX6_seats_22 : decode cX6_seats 22 = .ok (.iconst 4, 1) := by decide +kernel
theorem dX6_seats_23 : decode cX6_seats 23 = .ok (.if_icmp .le 6, 3) := by decide +kernel
theorem dX6_seats_26 : decode cX6_seats 26 = .ok (.bipush (-2), 2) := by decide +kernel
theorem dX6_seats_28 : decode cX6_seats 28 = .ok (.ireturn, 1) := by decide +kernel
theorem dX6_seats_29 : decode cX6_seats 29 = .ok (.aload_n 0, 1) := by decide +kernel
theorem dX6_seats_30 : decode cX6_seats 30 = .ok (.getfield 21, 3) := by decide +kernel
theorem dX6_seats_33 : decode cX6_seats 33 = .ok (.getfield 115, 3) := by decide +kernel
theorem dX6_seats_36 : decode cX6_seats 36 = .ok (.iload_n 1, 1) := by decide +kernel
theorem dX6_seats_37 : decode cX6_seats 37 = .ok (.iaload, 1) := by decide +kernel
theorem dX6_seats_38 : decode cX6_seats 38 = .ok (.istore_n 3, 1) := by decide +kernel
theorem dX6_seats_39 : decode cX6_seats 39 = .ok (.aload_n 0, 1) := by decide +kernel
theorem dX6_seats_40 : decode cX6_seats 40 = .ok (.getfield 21, 3) := by decide +kernel
theorem dX6_seats_43 : decode cX6_seats 43 = .ok (.getfield 115, 3) := by decide +kernel
theorem dX6_seats_46 : decode cX6_seats 46 = .ok (.iload_n 1, 1) := by decide +kernel
theorem dX6_seats_47 : decode cX6_seats 47 = .ok (.iload_n 2, 1) := by decide +kernel
theorem dX6_seats_48 : decode cX6_seats 48 = .ok (.iastore, 1) := by decide +kernel
theorem dX6_seats_49 : decode cX6_seats 49 = .ok (.aload_n 0, 1) := by decide +kernel
theorem dX6_seats_50 : decode cX6_seats 50 = .ok (.iconst 0, 1) := by decide +kernel
theorem dX6_seats_51 : decode cX6_seats 51 = .ok (.putfield 51, 3) := by decide +kernel
theorem dX6_seats_54 : decode cX6_seats 54 = .ok (.iload_n 3, 1) := by decide +kernel
theorem dX6_seats_55 : decode cX6_seats 55 = .ok (.ireturn, 1) := by decide +kernel
theorem dX6_limits_0 : decode cX6_limits 0 = .ok (.aload_n 0, 1) := by decide +kernel
theorem dX6_limits_1 : decode cX6_limits 1 = .ok (.invokevirtual 108, 3) := by decide +kernel
theorem dX6_limits_4 : decode cX6_limits 4 = .ok (.ifCond .eq 6, 3) := by decide +kernel
theorem dX6_limits_7 : decode cX6_limits 7 = .ok (.bipush (-3), 2) := by decide +kernel
theorem dX6_limits_9 : decode cX6_limits 9 = .ok (.ireturn, 1) := by decide +kernel
theorem dX6_limits_10 : decode cX6_limits 10 = .ok (.iload_n 1, 1) := by decide +kernel
theorem dX6_limits_11 : decode cX6_limits 11 = .ok (.ifCond .lt 14, 3) := by decide +kernel
theorem dX6_limits_14 : decode cX6_limits 14 = .ok (.iload_n 1, 1) := by decide +kernel
theorem dX6_limits_15 : decode cX6_limits 15 = .ok (.iload_n 2, 1) := by decide +kernel
theorem dX6_limits_16 : decode cX6_limits 16 = .ok (.if_icmp .gt 9, 3) := by decide +kernel
theorem dX6_limits_19 : decode cX6_limits 19 = .ok (.iload_n 2, 1) := by decide +kernel
theorem dX6_limits_20 : decode cX6_limits 20 = .ok (.bipush 99, 2) := by decide +kernel
theorem dX6_limits_22 : decode cX6_limits 22 = .ok (.if_icmp .le 6, 3) := by decide +kernel
theorem dX6_limits_25 : decode cX6_limits 25 = .ok (.bipush (-2), 2) := by decide +kernel
theorem dX6_limits_27 : decode cX6_limits 27 = .ok (.ireturn, 1) := by decide +kernel
theorem dX6_limits_28 : decode cX6_limits 28 = .ok (.bipush 100, 2) := by decide +kernel
theorem dX6_limits_30 : decode cX6_limits 30 = .ok (.aload_n 0, 1) := by decide +kernel
theorem dX6_limits_31 : decode cX6_limits 31 = .ok (.getfield 21, 3) := by decide +kernel
theorem dX6_limits_34 : decode cX6_limits 34 = .ok (.getfield 118, 3) := by decide +kernel
theorem dX6_limits_37 : decode cX6_limits 37 = .ok (.imul, 1) := by decide +kernel
theorem dX6_limits_38 : decode cX6_limits 38 = .ok (.aload_n 0, 1) := by decide +kernel
theorem dX6_limits_39 : decode cX6_limits 39 = .ok (.getfield 21, 3) := by decide +kernel
theorem dX6_limits_42 : decode cX6_limits 42 = .ok (.getfield 121, 3) := by decide +kernel
theorem dX6_limits_45 : decode cX6_limits 45 = .ok (.iadd, 1) := by decide +kernel
theorem dX6_limits_46 : decode cX6_limits 46 = .ok (.istore_n 3, 1) := by decide +kernel
theorem dX6_limits_47 : decode cX6_limits 47 = .ok (.aload_n 0, 1) := by decide +kernel
theorem dX6_limits_48 : decode cX6_limits 48 = .ok (.getfield 21, 3) := by decide +kernel
theorem dX6_limits_51 : decode cX6_limits 51 = .ok (.iload_n 1, 1) := by decide +kernel
theorem dX6_limits_52 : decode cX6_limits 52 = .ok (.putfield 118, 3) := by decide +kernel
theorem dX6_limits_55 : decode cX6_limits 55 = .ok (.aload_n 0, 1) := by decide +kernel
theorem dX6_limits_56 : decode cX6_limits 56 = .ok (.getfield 21, 3) := by decide +kernel
theorem dX6_limits_59 : decode cX6_limits 59 = .ok (.iload_n 2, 1) := by decide +kernel
theorem dX6_limits_60 : decode cX6_limits 60 = .ok (.putfield 121, 3) := by decide +kernel
theorem dX6_limits_63 : decode cX6_limits 63 = .ok (.aload_n 0, 1) := by decide +kernel
theorem dX6_limits_64 : decode cX6_limits 64 = .ok (.iconst 0, 1) := by decide +kernel
theorem dX6_limits_65 : decode cX6_limits 65 = .ok (.putfield 51, 3) := by decide +kernel
theorem dX6_limits_68 : decode cX6_limits 68 = .ok (.iload_n 3, 1) := by decide +kernel
theorem dX6_limits_69 : decode cX6_limits 69 = .ok (.ireturn, 1) := by decide +kernel
theorem dX6_dig_0 : decode cX6_dig 0 = .ok (.aload_n 0, 1) := by decide +kernel
theorem dX6_dig_1 : decode cX6_dig 1 = .ok (.invokevirtual 108, 3) := by decide +kernel
theorem dX6_dig_4 : decode cX6_dig 4 = .ok (.ifCond .eq 6, 3) := by decide +kernel
theorem dX6_dig_7 : decode cX6_dig 7 = .ok (.bipush (-3), 2) := by decide +kernel
theorem dX6_dig_9 : decode cX6_dig 9 = .ok (.ireturn, 1) := by decide +kernel
theorem dX6_dig_10 : decode cX6_dig 10 = .ok (.aload_n 0, 1) := by decide +kernel
theorem dX6_dig_11 : decode cX6_dig 11 = .ok (.iload_n 1, 1) := by decide +kernel
theorem dX6_dig_12 : decode cX6_dig 12 = .ok (.invokevirtual 124, 3) := by decide +kernel
theorem dX6_dig_15 : decode cX6_dig 15 = .ok (.ifCond .eq 6, 3) := by decide +kernel
theorem dX6_dig_18 : decode cX6_dig 18 = .ok (.bipush (-2), 2) := by decide +kernel
theorem dX6_dig_20 : decode cX6_dig 20 = .ok (.ireturn, 1) := by decide +kernel
theorem dX6_dig_21 : decode cX6_dig 21 = .ok (.aload_n 0, 1) := by decide +kernel
theorem dX6_dig_22 : decode cX6_dig 22 = .ok (.getfield 21, 3) := by decide +kernel
theorem dX6_dig_25 : decode cX6_dig 25 = .ok (.getfield 127, 3) := by decide +kernel
theorem dX6_dig_28 : decode cX6_dig 28 = .ok (.iload_n 1, 1) := by decide +kernel
theorem dX6_dig_29 : decode cX6_dig 29 = .ok (.baload, 1) := by decide +kernel
theorem dX6_dig_30 : decode cX6_dig 30 = .ok (.iload_n 2, 1) := by decide +kernel
theorem dX6_dig_31 : decode cX6_dig 31 = .ok (.if_icmp .ne 5, 3) := by decide +kernel
theorem dX6_dig_34 : decode cX6_dig 34 = .ok (.iconst 0, 1) := by decide +kernel
theorem dX6_dig_35 : decode cX6_dig 35 = .ok (.ireturn, 1) := by decide +kernel
theorem dX6_dig_36 : decode cX6_dig 36 = .ok (.aload_n 0, 1) := by decide +kernel
theorem dX6_dig_37 : decode cX6_dig 37 = .ok (.getfield 21, 3) := by decide +kernel
theorem dX6_dig_40 : decode cX6_dig 40 = .ok (.getfield 127, 3) := by decide +kernel
theorem dX6_dig_43 : decode cX6_dig 43 = .ok (.iload_n 1, 1) := by decide +kernel
theorem dX6_dig_44 : decode cX6_dig 44 = .ok (.iload_n 2, 1) := by decide +kernel
theorem dX6_dig_45 : decode cX6_dig 45 = .ok (.bastore, 1) := by decide +kernel
theorem dX6_dig_46 : decode cX6_dig 46 = .ok (.aload_n 0, 1) := by decide +kernel
theorem dX6_dig_47 : decode cX6_dig 47 = .ok (.invokevirtual 90, 3) := by decide +kernel
theorem dX6_dig_50 : decode cX6_dig 50 = .ok (.iconst 1, 1) := by decide +kernel
theorem dX6_dig_51 : decode cX6_dig 51 = .ok (.ireturn, 1) := by decide +kernel
theorem dX6_talk_0 : decode cX6_talk 0 = .ok (.aload_n 0, 1) := by decide +kernel
theorem dX6_talk_1 : decode cX6_talk 1 = .ok (.invokevirtual 108, 3) := by decide +kernel
theorem dX6_talk_4 : decode cX6_talk 4 = .ok (.ifCond .eq 6, 3) := by decide +kernel
theorem dX6_talk_7 : decode cX6_talk 7 = .ok (.bipush (-3), 2) := by decide +kernel
theorem dX6_talk_9 : decode cX6_talk 9 = .ok (.ireturn, 1) := by decide +kernel
theorem dX6_talk_10 : decode cX6_talk 10 = .ok (.aload_n 0, 1) := by decide +kernel
theorem dX6_talk_11 : decode cX6_talk 11 = .ok (.iload_n 1, 1) := by decide +kernel
theorem dX6_talk_12 : decode cX6_talk 12 = .ok (.invokevirtual 124, 3) := by decide +kernel
theorem dX6_talk_15 : decode cX6_talk 15 = .ok (.ifCond .eq 6, 3) := by decide +kernel
theorem dX6_talk_18 : decode cX6_talk 18 = .ok (.bipush (-2), 2) := by decide +kernel
theorem dX6_talk_20 : decode cX6_talk 20 = .ok (.ireturn, 1) := by decide +kernel
theorem dX6_talk_21 : decode cX6_talk 21 = .ok (.iload_n 2, 1) := by decide +kernel
theorem dX6_talk_22 : decode cX6_talk 22 = .ok (.bipush (-9), 2) := by decide +kernel
theorem dX6_talk_24 : decode cX6_talk 24 = .ok (.if_icmp .ne 13, 3) := by decide +kernel
theorem dX6_talk_27 : decode cX6_talk 27 = .ok (.iload_n 3, 1) := by decide +kernel
theorem dX6_talk_28 : decode cX6_talk 28 = .ok (.bipush (-9), 2) := by decide +kernel
theorem dX6_talk_30 : decode cX6_talk 30 = .ok (.if_icmp .ne 7, 3) := by decide +kernel
theorem dX6_talk_33 : decode cX6_talk 33 = .ok (.iconst 1, 1) := by decide +kernel
theorem dX6_talk_34 : decode cX6_talk 34 = .ok (.goto 4, 3) := by decide +kernel
theorem dX6_talk_37 : decode cX6_talk 37 = .ok (.iconst 0, 1) := by decide +kernel
theorem dX6_talk_38 : decode cX6_talk 38 = .ok (.istore 4, 2) := by decide +kernel
theorem dX6_talk_40 : decode cX6_talk 40 = .ok (.iload 4, 2) := by decide +kernel
theorem dX6_talk_42 : decode cX6_talk 42 = .ok (.ifCond .ne 14, 3) := by decide +kernel
theorem dX6_talk_45 : decode cX6_talk 45 = .ok (.aload_n 0, 1) := by decide +kernel
theorem dX6_talk_46 : decode cX6_talk 46 = .ok (.iload_n 2, 1) := by decide +kernel
theorem dX6_talk_47 : decode cX6_talk 47 = .ok (.iload_n 3, 1) := by decide +kernel
theorem dX6_talk_48 : decode cX6_talk 48 = .ok (.invokevirtual 131, 3) := by decide +kernel
theorem dX6_talk_51 : decode cX6_talk 51 = .ok (.ifCond .eq 5, 3) := by decide +kernel
theorem dX6_talk_54 : decode cX6_talk 54 = .ok (.iconst (-1), 1) := by decide +kernel
theorem dX6_talk_55 : decode cX6_talk 55 = .ok (.ireturn, 1) := by decide +kernel
theorem dX6_talk_56 : decode cX6_talk 56 = .ok (.aload_n 0, 1) := by decide +kernel
theorem dX6_talk_57 : decode cX6_talk 57 = .ok (.getfield 21, 3) := by decide +kernel
theorem dX6_talk_60 : decode cX6_talk 60 = .ok (.getfield 135, 3) := by decide +kernel
theorem dX6_talk_63 : decode cX6_talk 63 = .ok (.iload_n 1, 1) := by decide +kernel
theorem dX6_talk_64 : decode cX6_talk 64 = .ok (.iaload, 1) := by decide +kernel
theorem dX6_talk_65 : decode cX6_talk 65 = .ok (.bipush (-9), 2) := by decide +kernel
theorem dX6_talk_67 : decode cX6_talk 67 = .ok (.if_icmp .ne 8, 3) := by decide +kernel
theorem dX6_talk_70 : decode cX6_talk 70 = .ok (.bipush (-9), 2) := by decide +kernel
theorem dX6_talk_72 : decode cX6_talk 72 = .ok (.goto 25, 3) := by decide +kernel
theorem dX6_talk_75 : decode cX6_talk 75 = .ok (.bipush 10, 2) := by decide +kernel
theorem dX6_talk_77 : decode cX6_talk 77 = .ok (.aload_n 0, 1) := by decide +kernel
theorem dX6_talk_78 : decode cX6_talk 78 = .ok (.getfield 21, 3) := by decide +kernel
theorem dX6_talk_81 : decode cX6_talk 81 = .ok (.getfield 135, 3) := by decide +kernel
theorem dX6_talk_84 : decode cX6_talk 84 = .ok (.iload_n 1, 1) := by decide +kernel
theorem dX6_talk_85 : decode cX6_talk 85 = .ok (.iaload, 1) := by decide +kernel
theorem dX6_talk_86 : decode cX6_talk 86 = .ok (.imul, 1) := by decide +kernel
theorem dX6_talk_87 : decode cX6_talk 87 = .ok (.aload_n 0, 1) := by decide +kernel
theorem dX6_talk_88 : decode cX6_talk 88 = .ok (.getfield 21, 3) := by decide +kernel
theorem dX6_talk_91 : decode cX6_talk 91 = .ok (.getfield 138, 3) := by decide +kernel
theorem dX6_talk_94 : decode cX6_talk 94 = .ok (.iload_n 1, 1) := by decide +kernel
theorem dX6_talk_95 : decode cX6_talk 95 = .ok (.iaload, 1) := by decide +kernel
theorem dX6_talk_96 : decode cX6_talk 96 = .ok (.iadd, 1) := by decide +kernel
theorem dX6_talk_97 : decode cX6_talk 97 = .ok (.istore 5, 2) := by decide +kernel
theorem dX6_talk_99 : decode cX6_talk 99 = .ok (.aload_n 0, 1) := by decide +kernel
theorem dX6_talk_100 : decode cX6_talk 100 = .ok (.getfield 21, 3) := by decide +kernel
theorem dX6_talk_103 : decode cX6_talk 103 = .ok (.getfield 135, 3) := by decide +kernel
theorem dX6_talk_106 : decode cX6_talk 106 = .ok (.iload_n 1, 1) := by decide +kernel
theorem dX6_talk_107 : decode cX6_talk 107 = .ok (.iload_n 2, 1) := by decide +kernel
theorem dX6_talk_108 : decode cX6_talk 108 = .ok (.iastore, 1) := by decide +kernel
theorem dX6_talk_109 : decode cX6_talk 109 = .ok (.aload_n 0, 1) := by decide +kernel
theorem dX6_talk_110 : decode cX6_talk 110 = .ok (.getfield 21, 3) := by decide +kernel
theorem dX6_talk_113 : decode cX6_talk 113 = .ok (.getfield 138, 3) := by decide +kernel
theorem dX6_talk_116 : decode cX6_talk 116 = .ok (.iload_n 1, 1) := by decide +kernel
theorem dX6_talk_117 : decode cX6_talk 117 = .ok (.iload_n 3, 1) := by decide +kernel
theorem dX6_talk_118 : decode cX6_talk 118 = .ok (.iastore, 1) := by decide +kernel
theorem dX6_talk_119 : decode cX6_talk 119 = .ok (.aload_n 0, 1) := by decide +kernel
theorem dX6_talk_120 : decode cX6_talk 120 = .ok (.invokevirtual 90, 3) := by decide +kernel
theorem dX6_talk_123 : decode cX6_talk 123 = .ok (.iload 5, 2) := by decide +kernel
theorem dX6_talk_125 : decode cX6_talk 125 = .ok (.ireturn, 1) := by decide +kernel
theorem dX6_regret_0 : decode cX6_regret 0 = .ok (.aload_n 0, 1) := by decide +kernel
theorem dX6_regret_1 : decode cX6_regret 1 = .ok (.iload_n 1, 1) := by decide +kernel
theorem dX6_regret_2 : decode cX6_regret 2 = .ok (.invokevirtual 96, 3) := by decide +kernel
theorem dX6_regret_5 : decode cX6_regret 5 = .ok (.ifCond .eq 5, 3) := by decide +kernel
theorem dX6_regret_8 : decode cX6_regret 8 = .ok (.iconst (-1), 1) := by decide +kernel
theorem dX6_regret_9 : decode cX6_regret 9 = .ok (.ireturn, 1) := by decide +kernel
theorem dX6_regret_10 : decode cX6_regret 10 = .ok (.aload_n 0, 1) := by decide +kernel
theorem dX6_regret_11 : decode cX6_regret 11 = .ok (.iload_n 2, 1) := by decide +kernel
theorem dX6_regret_12 : decode cX6_regret 12 = .ok (.invokevirtual 141, 3) := by decide +kernel
theorem dX6_regret_15 : decode cX6_regret 15 = .ok (.ifCond .eq 8, 3) := by decide +kernel
theorem dX6_regret_18 : decode cX6_regret 18 = .ok (.bipush (-2), 2) := by decide +kernel
theorem dX6_regret_20 : decode cX6_regret 20 = .ok (.goto 12, 3) := by decide +kernel
theorem dX6_regret_23 : decode cX6_regret 23 = .ok (.aload_n 0, 1) := by decide +kernel
theorem dX6_regret_24 : decode cX6_regret 24 = .ok (.getfield 21, 3) := by decide +kernel
theorem dX6_regret_27 : decode cX6_regret 27 = .ok (.iload_n 1, 1) := by decide +kernel
theorem dX6_regret_28 : decode cX6_regret 28 = .ok (.iload_n 2, 1) := by decide +kernel
theorem dX6_regret_29 : decode cX6_regret 29 = .ok (.invokevirtual 144, 3) := by decide +kernel
theorem dX6_regret_32 : decode cX6_regret 32 = .ok (.ireturn, 1) := by decide +kernel
theorem dX6_due_0 : decode cX6_due 0 = .ok (.aload_n 0, 1) := by decide +kernel
theorem dX6_due_1 : decode cX6_due 1 = .ok (.iload_n 1, 1) := by decide +kernel
theorem dX6_due_2 : decode cX6_due 2 = .ok (.invokevirtual 96, 3) := by decide +kernel
theorem dX6_due_5 : decode cX6_due 5 = .ok (.ifCond .eq 5, 3) := by decide +kernel
theorem dX6_due_8 : decode cX6_due 8 = .ok (.iconst (-1), 1) := by decide +kernel
theorem dX6_due_9 : decode cX6_due 9 = .ok (.ireturn, 1) := by decide +kernel
theorem dX6_due_10 : decode cX6_due 10 = .ok (.aload_n 0, 1) := by decide +kernel
theorem dX6_due_11 : decode cX6_due 11 = .ok (.iload_n 2, 1) := by decide +kernel
theorem dX6_due_12 : decode cX6_due 12 = .ok (.invokevirtual 141, 3) := by decide +kernel
theorem dX6_due_15 : decode cX6_due 15 = .ok (.ifCond .eq 8, 3) := by decide +kernel
theorem dX6_due_18 : decode cX6_due 18 = .ok (.bipush (-2), 2) := by decide +kernel
theorem dX6_due_20 : decode cX6_due 20 = .ok (.goto 12, 3) := by decide +kernel
theorem dX6_due_23 : decode cX6_due 23 = .ok (.aload_n 0, 1) := by decide +kernel
theorem dX6_due_24 : decode cX6_due 24 = .ok (.getfield 21, 3) := by decide +kernel
theorem dX6_due_27 : decode cX6_due 27 = .ok (.iload_n 1, 1) := by decide +kernel
theorem dX6_due_28 : decode cX6_due 28 = .ok (.iload_n 2, 1) := by decide +kernel
theorem dX6_due_29 : decode cX6_due 29 = .ok (.invokevirtual 148, 3) := by decide +kernel
theorem dX6_due_32 : decode cX6_due 32 = .ok (.ireturn, 1) := by decide +kernel
theorem dX6_seating_0 : decode cX6_seating 0 = .ok (.aload_n 0, 1) := by decide +kernel
theorem dX6_seating_1 : decode cX6_seating 1 = .ok (.iconst 0, 1) := by decide +kernel
theorem dX6_seating_2 : decode cX6_seating 2 = .ok (.putfield 59, 3) := by decide +kernel
theorem dX6_seating_5 : decode cX6_seating 5 = .ok (.iload_n 1, 1) := by decide +kernel
theorem dX6_seating_6 : decode cX6_seating 6 = .ok (.invokestatic 62, 3) := by decide +kernel
theorem dX6_seating_9 : decode cX6_seating 9 = .ok (.ifCond .eq 5, 3) := by decide +kernel
theorem dX6_seating_12 : decode cX6_seating 12 = .ok (.iconst (-1), 1) := by decide +kernel
theorem dX6_seating_13 : decode cX6_seating 13 = .ok (.ireturn, 1) := by decide +kernel
theorem dX6_seating_14 : decode cX6_seating 14 = .ok (.iload_n 2, 1) := by decide +kernel
theorem dX6_seating_15 : decode cX6_seating 15 = .ok (.invokestatic 66, 3) := by decide +kernel
theorem dX6_seating_18 : decode cX6_seating 18 = .ok (.ifCond .ne 11, 3) := by decide +kernel
theorem dX6_seating_21 : decode cX6_seating 21 = .ok (.iload 5, 2) := by decide +kernel
theorem dX6_seating_23 : decode cX6_seating 23 = .ok (.invokestatic 151, 3) := by decide +kernel
theorem dX6_seating_26 : decode cX6_seating 26 = .ok (.ifCond .eq 6, 3) := by decide +kernel
theorem dX6_seating_29 : decode cX6_seating 29 = .ok (.bipush (-2), 2) := by decide +kernel
theorem dX6_seating_31 : decode cX6_seating 31 = .ok (.ireturn, 1) := by decide +kernel
theorem dX6_seating_32 : decode cX6_seating 32 = .ok (.aload_n 0, 1) := by decide +kernel
theorem dX6_seating_33 : decode cX6_seating 33 = .ok (.aload_n 0, 1) := by decide +kernel
theorem dX6_seating_34 : decode cX6_seating 34 = .ok (.getfield 13, 3) := by decide +kernel
theorem dX6_seating_37 : decode cX6_seating 37 = .ok (.iload_n 1, 1) := by decide +kernel
theorem dX6_seating_38 : decode cX6_seating 38 = .ok (.aaload, 1) := by decide +kernel
theorem dX6_seating_39 : decode cX6_seating 39 = .ok (.iload_n 2, 1) := by decide +kernel
theorem dX6_seating_40 : decode cX6_seating 40 = .ok (.iload_n 3, 1) := by decide +kernel
theorem dX6_seating_41 : decode cX6_seating 41 = .ok (.iload 4, 2) := by decide +kernel
theorem dX6_seating_43 : decode cX6_seating 43 = .ok (.invokevirtual 69, 3) := by decide +kernel
theorem dX6_seating_46 : decode cX6_seating 46 = .ok (.putfield 59, 3) := by decide +kernel
theorem dX6_seating_49 : decode cX6_seating 49 = .ok (.aload_n 0, 1) := by decide +kernel
theorem dX6_seating_50 : decode cX6_seating 50 = .ok (.getfield 59, 3) := by decide +kernel
theorem dX6_seating_53 : decode cX6_seating 53 = .ok (.ifCond .eq 11, 3) := by decide +kernel
theorem dX6_seating_56 : decode cX6_seating 56 = .ok (.bipush (-10), 2) := by decide +kernel
theorem dX6_seating_58 : decode cX6_seating 58 = .ok (.aload_n 0, 1) := by decide +kernel
theorem dX6_seating_59 : decode cX6_seating 59 = .ok (.getfield 59, 3) := by decide +kernel
theorem dX6_seating_62 : decode cX6_seating 62 = .ok (.isub, 1) := by decide +kernel
theorem dX6_seating_63 : decode cX6_seating 63 = .ok (.ireturn, 1) := by decide +kernel
theorem dX6_seating_64 : decode cX6_seating 64 = .ok (.aload_n 0, 1) := by decide +kernel
theorem dX6_seating_65 : decode cX6_seating 65 = .ok (.invokevirtual 108, 3) := by decide +kernel
theorem dX6_seating_68 : decode cX6_seating 68 = .ok (.ifCond .eq 6, 3) := by decide +kernel
theorem dX6_seating_71 : decode cX6_seating 71 = .ok (.bipush (-3), 2) := by decide +kernel
theorem dX6_seating_73 : decode cX6_seating 73 = .ok (.ireturn, 1) := by decide +kernel
theorem dX6_seating_74 : decode cX6_seating 74 = .ok (.iload 4, 2) := by decide +kernel
theorem dX6_seating_76 : decode cX6_seating 76 = .ok (.aload_n 0, 1) := by decide +kernel
theorem dX6_seating_77 : decode cX6_seating 77 = .ok (.getfield 21, 3) := by decide +kernel
theorem dX6_seating_80 : decode cX6_seating 80 = .ok (.getfield 154, 3) := by decide +kernel
theorem dX6_seating_83 : decode cX6_seating 83 = .ok (.aload_n 0, 1) := by decide +kernel
theorem dX6_seating_84 : decode cX6_seating 84 = .ok (.getfield 21, 3) := by decide +kernel
theorem dX6_seating_87 : decode cX6_seating 87 = .ok (.getfield 93, 3) := by decide +kernel
theorem dX6_seating_90 : decode cX6_seating 90 = .ok (.imul, 1) := by decide +kernel
theorem dX6_seating_91 : decode cX6_seating 91 = .ok (.if_icmp .ne 23, 3) := by decide +kernel
theorem dX6_seating_94 : decode cX6_seating 94 = .ok (.aload_n 0, 1) := by decide +kernel
theorem dX6_seating_95 : decode cX6_seating 95 = .ok (.getfield 40, 3) := by decide +kernel
theorem dX6_seating_98 : decode cX6_seating 98 = .ok (.aload_n 0, 1) := by decide +kernel
theorem dX6_seating_99 : decode cX6_seating 99 = .ok (.getfield 13, 3) := by decide +kernel
theorem dX6_seating_102 : decode cX6_seating 102 = .ok (.iload_n 1, 1) := by decide +kernel
theorem dX6_seating_103 : decode cX6_seating 103 = .ok (.aaload, 1) := by decide +kernel
theorem dX6_seating_104 : decode cX6_seating 104 = .ok (.getfield 73, 3) := by decide +kernel
theorem dX6_seating_107 : decode cX6_seating 107 = .ok (.iload_n 3, 1) := by decide +kernel
theorem dX6_seating_108 : decode cX6_seating 108 = .ok (.invokevirtual 157, 3) := by decide +kernel
theorem dX6_seating_111 : decode cX6_seating 111 = .ok (.ifCond .ne 6, 3) := by decide +kernel
theorem dX6_seating_114 : decode cX6_seating 114 = .ok (.bipush (-2), 2) := by decide +kernel
theorem dX6_seating_116 : decode cX6_seating 116 = .ok (.ireturn, 1) := by decide +kernel
theorem dX6_seating_117 : decode cX6_seating 117 = .ok (.aload_n 0, 1) := by decide +kernel
theorem dX6_seating_118 : decode cX6_seating 118 = .ok (.iload 5, 2) := by decide +kernel
theorem dX6_seating_120 : decode cX6_seating 120 = .ok (.invokevirtual 160, 3) := by decide +kernel
theorem dX6_seating_123 : decode cX6_seating 123 = .ok (.ireturn, 1) := by decide +kernel
theorem dX6_noQuestionOfSeating_0 : decode cX6_noQuestionOfSeating 0 = .ok (.iload_n 0, 1) := by decide +kernel
theorem dX6_noQuestionOfSeating_1 : decode cX6_noQuestionOfSeating 1 = .ok (.ifCond .lt 12, 3) := by decide +kernel
theorem dX6_noQuestionOfSeating_4 : decode cX6_noQuestionOfSeating 4 = .ok (.iload_n 0, 1) := by decide +kernel
theorem dX6_noQuestionOfSeating_5 : decode cX6_noQuestionOfSeating 5 = .ok (.iconst 3, 1) := by decide +kernel
theorem dX6_noQuestionOfSeating_6 : decode cX6_noQuestionOfSeating 6 = .ok (.if_icmp .gt 7, 3) := by decide +kernel
theorem dX6_noQuestionOfSeating_9 : decode cX6_noQuestionOfSeating 9 = .ok (.iconst 1, 1) := by decide +kernel
theorem dX6_noQuestionOfSeating_10 : decode cX6_noQuestionOfSeating 10 = .ok (.goto 4, 3) := by decide +kernel
theorem dX6_noQuestionOfSeating_13 : decode cX6_noQuestionOfSeating 13 = .ok (.iconst 0, 1) := by decide +kernel
theorem dX6_noQuestionOfSeating_14 : decode cX6_noQuestionOfSeating 14 = .ok (.istore_n 1, 1) := by decide +kernel
theorem dX6_noQuestionOfSeating_15 : decode cX6_noQuestionOfSeating 15 = .ok (.iload_n 0, 1) := by decide +kernel
theorem dX6_noQuestionOfSeating_16 : decode cX6_noQuestionOfSeating 16 = .ok (.bipush 10, 2) := by decide +kernel
theorem dX6_noQuestionOfSeating_18 : decode cX6_noQuestionOfSeating 18 = .ok (.if_icmp .lt 13, 3) := by decide +kernel
theorem dX6_noQuestionOfSeating_21 : decode cX6_noQuestionOfSeating 21 = .ok (.iload_n 0, 1) := by decide +kernel
theorem dX6_noQuestionOfSeating_22 : decode cX6_noQuestionOfSeating 22 = .ok (.bipush 14, 2) := by decide +kernel
theorem dX6_noQuestionOfSeating_24 : decode cX6_noQuestionOfSeating 24 = .ok (.if_icmp .ge 7, 3) := by decide +kernel
theorem dX6_noQuestionOfSeating_27 : decode cX6_noQuestionOfSeating 27 = .ok (.iconst 1, 1) := by decide +kernel
theorem dX6_noQuestionOfSeating_28 : decode cX6_noQuestionOfSeating 28 = .ok (.goto 4, 3) := by decide +kernel
theorem dX6_noQuestionOfSeating_31 : decode cX6_noQuestionOfSeating 31 = .ok (.iconst 0, 1) := by decide +kernel
theorem dX6_noQuestionOfSeating_32 : decode cX6_noQuestionOfSeating 32 = .ok (.istore_n 2, 1) := by decide +kernel
theorem dX6_noQuestionOfSeating_33 : decode cX6_noQuestionOfSeating 33 = .ok (.iload_n 1, 1) := by decide +kernel
theorem dX6_noQuestionOfSeating_34 : decode cX6_noQuestionOfSeating 34 = .ok (.ifCond .ne 11, 3) := by decide +kernel
theorem dX6_noQuestionOfSeating_37 : decode cX6_noQuestionOfSeating 37 = .ok (.iload_n 2, 1) := by decide +kernel
theorem dX6_noQuestionOfSeating_38 : decode cX6_noQuestionOfSeating 38 = .ok (.ifCond .ne 7, 3) := by decide +kernel
theorem dX6_noQuestionOfSeating_41 : decode cX6_noQuestionOfSeating 41 = .ok (.iconst 1, 1) := by decide +kernel
theorem dX6_noQuestionOfSeating_42 : decode cX6_noQuestionOfSeating 42 = .ok (.goto 4, 3) := by decide +kernel
theorem dX6_noQuestionOfSeating_45 : decode cX6_noQuestionOfSeating 45 = .ok (.iconst 0, 1) := by decide +kernel
theorem dX6_noQuestionOfSeating_46 : decode cX6_noQuestionOfSeating 46 = .ok (.ireturn, 1) := by decide +kernel
theorem dX6_ofSeating_0 : decode cX6_ofSeating 0 = .ok (.aload_n 0, 1) := by decide +kernel
theorem dX6_ofSeating_1 : decode cX6_ofSeating 1 = .ok (.getfield 40, 3) := by decide +kernel
theorem dX6_ofSeating_4 : decode cX6_ofSeating 4 = .ok (.invokevirtual 164, 3) := by decide +kernel
theorem dX6_ofSeating_7 : decode cX6_ofSeating 7 = .ok (.istore_n 2, 1) := by decide +kernel
theorem dX6_ofSeating_8 : decode cX6_ofSeating 8 = .ok (.iload_n 1, 1) := by decide +kernel
theorem dX6_ofSeating_9 : decode cX6_ofSeating 9 = .ok (.iconst 1, 1) := by decide +kernel
theorem dX6_ofSeating_10 : decode cX6_ofSeating 10 = .ok (.if_icmp .ne 5, 3) := by decide +kernel
theorem dX6_ofSeating_13 : decode cX6_ofSeating 13 = .ok (.iload_n 2, 1) := by decide +kernel
theorem dX6_ofSeating_14 : decode cX6_ofSeating 14 = .ok (.ireturn, 1) := by decide +kernel
theorem dX6_ofSeating_15 : decode cX6_ofSeating 15 = .ok (.iload_n 2, 1) := by decide +kernel
theorem dX6_ofSeating_16 : decode cX6_ofSeating 16 = .ok (.bipush (-9), 2) := by decide +kernel
theorem dX6_ofSeating_18 : decode cX6_ofSeating 18 = .ok (.if_icmp .eq 8, 3) := by decide +kernel
theorem dX6_ofSeating_21 : decode cX6_ofSeating 21 = .ok (.bipush (-100), 2) := by decide +kernel
theorem dX6_ofSeating_23 : decode cX6_ofSeating 23 = .ok (.iload_n 2, 1) := by decide +kernel
theorem dX6_ofSeating_24 : decode cX6_ofSeating 24 = .ok (.isub, 1) := by decide +kernel
theorem dX6_ofSeating_25 : decode cX6_ofSeating 25 = .ok (.ireturn, 1) := by decide +kernel
theorem dX6_ofSeating_26 : decode cX6_ofSeating 26 = .ok (.iload_n 1, 1) := by decide +kernel
theorem dX6_ofSeating_27 : decode cX6_ofSeating 27 = .ok (.tableswitch 61 0 3 #[29, 61, 45, 53], 29) := by decide +kernel
theorem dX6_ofSeating_56 : decode cX6_ofSeating 56 = .ok (.aload_n 0, 1) := by decide +kernel
theorem dX6_ofSeating_57 : decode cX6_ofSeating 57 = .ok (.getfield 40, 3) := by decide +kernel
theorem dX6_ofSeating_60 : decode cX6_ofSeating 60 = .ok (.invokevirtual 168, 3) := by decide +kernel
theorem dX6_ofSeating_63 : decode cX6_ofSeating 63 = .ok (.aload_n 0, 1) := by decide +kernel
theorem dX6_ofSeating_64 : decode cX6_ofSeating 64 = .ok (.getfield 40, 3) := by decide +kernel
theorem dX6_ofSeating_67 : decode cX6_ofSeating 67 = .ok (.invokevirtual 171, 3) := by decide +kernel
theorem dX6_ofSeating_70 : decode cX6_ofSeating 70 = .ok (.iadd, 1) := by decide +kernel
theorem dX6_ofSeating_71 : decode cX6_ofSeating 71 = .ok (.ireturn, 1) := by decide +kernel
theorem dX6_ofSeating_72 : decode cX6_ofSeating 72 = .ok (.aload_n 0, 1) := by decide +kernel
theorem dX6_ofSeating_73 : decode cX6_ofSeating 73 = .ok (.getfield 40, 3) := by decide +kernel
theorem dX6_ofSeating_76 : decode cX6_ofSeating 76 = .ok (.invokevirtual 168, 3) := by decide +kernel
theorem dX6_ofSeating_79 : decode cX6_ofSeating 79 = .ok (.ireturn, 1) := by decide +kernel
theorem dX6_ofSeating_80 : decode cX6_ofSeating 80 = .ok (.aload_n 0, 1) := by decide +kernel
theorem dX6_ofSeating_81 : decode cX6_ofSeating 81 = .ok (.getfield 40, 3) := by decide +kernel
theorem dX6_ofSeating_84 : decode cX6_ofSeating 84 = .ok (.invokevirtual 174, 3) := by decide +kernel
theorem dX6_ofSeating_87 : decode cX6_ofSeating 87 = .ok (.ireturn, 1) := by decide +kernel
theorem dX6_ofSeating_88 : decode cX6_ofSeating 88 = .ok (.aload_n 0, 1) := by decide +kernel
theorem dX6_ofSeating_89 : decode cX6_ofSeating 89 = .ok (.iload_n 1, 1) := by decide +kernel
theorem dX6_ofSeating_90 : decode cX6_ofSeating 90 = .ok (.bipush 10, 2) := by decide +kernel
theorem dX6_ofSeating_92 : decode cX6_ofSeating 92 = .ok (.isub, 1) := by decide +kernel
theorem dX6_ofSeating_93 : decode cX6_ofSeating 93 = .ok (.invokevirtual 96, 3) := by decide +kernel
theorem dX6_ofSeating_96 : decode cX6_ofSeating 96 = .ok (.ifCond .eq 8, 3) := by decide +kernel
theorem dX6_ofSeating_99 : decode cX6_ofSeating 99 = .ok (.bipush (-9), 2) := by decide +kernel
theorem dX6_ofSeating_101 : decode cX6_ofSeating 101 = .ok (.goto 14, 3) := by decide +kernel
theorem dX6_ofSeating_104 : decode cX6_ofSeating 104 = .ok (.aload_n 0, 1) := by decide +kernel
theorem dX6_ofSeating_105 : decode cX6_ofSeating 105 = .ok (.getfield 40, 3) := by decide +kernel
theorem dX6_ofSeating_108 : decode cX6_ofSeating 108 = .ok (.iload_n 1, 1) := by decide +kernel
theorem dX6_ofSeating_109 : decode cX6_ofSeating 109 = .ok (.bipush 10, 2) := by decide +kernel
theorem dX6_ofSeating_111 : decode cX6_ofSeating 111 = .ok (.isub, 1) := by decide +kernel
theorem dX6_ofSeating_112 : decode cX6_ofSeating 112 = .ok (.invokevirtual 177, 3) := by decide +kernel
theorem dX6_ofSeating_115 : decode cX6_ofSeating 115 = .ok (.ireturn, 1) := by decide +kernel
theorem dX6_ease_0 : decode cX6_ease 0 = .ok (.iload_n 1, 1) := by decide +kernel
theorem dX6_ease_1 : decode cX6_ease 1 = .ok (.iconst (-1), 1) := by decide +kernel
theorem dX6_ease_2 : decode cX6_ease 2 = .ok (.if_icmp .ge 5, 3) := by decide +kernel
theorem dX6_ease_5 : decode cX6_ease 5 = .ok (.iconst (-1), 1) := by decide +kernel
theorem dX6_ease_6 : decode cX6_ease 6 = .ok (.ireturn, 1) := by decide +kernel
theorem dX6_ease_7 : decode cX6_ease 7 = .ok (.aload_n 0, 1) := by decide +kernel
theorem dX6_ease_8 : decode cX6_ease 8 = .ok (.invokevirtual 108, 3) := by decide +kernel
theorem dX6_ease_11 : decode cX6_ease 11 = .ok (.ifCond .eq 6, 3) := by decide +kernel
theorem dX6_ease_14 : decode cX6_ease 14 = .ok (.bipush (-3), 2) := by decide +kernel
theorem dX6_ease_16 : decode cX6_ease 16 = .ok (.ireturn, 1) := by decide +kernel
theorem dX6_ease_17 : decode cX6_ease 17 = .ok (.aload_n 0, 1) := by decide +kernel
theorem dX6_ease_18 : decode cX6_ease 18 = .ok (.invokevirtual 180, 3) := by decide +kernel
theorem dX6_ease_21 : decode cX6_ease 21 = .ok (.iload_n 1, 1) := by decide +kernel
theorem dX6_ease_22 : decode cX6_ease 22 = .ok (.iconst (-1), 1) := by decide +kernel
theorem dX6_ease_23 : decode cX6_ease 23 = .ok (.if_icmp .eq 15, 3) := by decide +kernel
theorem dX6_ease_26 : decode cX6_ease 26 = .ok (.aload_n 0, 1) := by decide +kernel
theorem dX6_ease_27 : decode cX6_ease 27 = .ok (.getfield 47, 3) := by decide +kernel
theorem dX6_ease_30 : decode cX6_ease 30 = .ok (.getfield 183, 3) := by decide +kernel
theorem dX6_ease_33 : decode cX6_ease 33 = .ok (.bipush (-9), 2) := by decide +kernel
theorem dX6_ease_35 : decode cX6_ease 35 = .ok (.if_icmp .ne 11, 3) := by decide +kernel
theorem dX6_ease_38 : decode cX6_ease 38 = .ok (.aload_n 0, 1) := by decide +kernel
theorem dX6_ease_39 : decode cX6_ease 39 = .ok (.getfield 47, 3) := by decide +kernel
theorem dX6_ease_42 : decode cX6_ease 42 = .ok (.getfield 183, 3) := by decide +kernel
theorem dX6_ease_45 : decode cX6_ease 45 = .ok (.ireturn, 1) := by decide +kernel
theorem dX6_ease_46 : decode cX6_ease 46 = .ok (.iload_n 1, 1) := by decide +kernel
theorem dX6_ease_47 : decode cX6_ease 47 = .ok (.aload_n 0, 1) := by decide +kernel
theorem dX6_ease_48 : decode cX6_ease 48 = .ok (.getfield 21, 3) := by decide +kernel
theorem dX6_ease_51 : decode cX6_ease 51 = .ok (.getfield 154, 3) := by decide +kernel
theorem dX6_ease_54 : decode cX6_ease 54 = .ok (.aload_n 0, 1) := by decide +kernel
theorem dX6_ease_55 : decode cX6_ease 55 = .ok (.getfield 21, 3) := by decide +kernel
theorem dX6_ease_58 : decode cX6_ease 58 = .ok (.getfield 93, 3) := by decide +kernel
theorem dX6_ease_61 : decode cX6_ease 61 = .ok (.imul, 1) := by decide +kernel
theorem dX6_ease_62 : decode cX6_ease 62 = .ok (.if_icmp .ge 15, 3) := by decide +kernel
theorem dX6_ease_65 : decode cX6_ease 65 = .ok (.aload_n 0, 1) := by decide +kernel
theorem dX6_ease_66 : decode cX6_ease 66 = .ok (.getfield 47, 3) := by decide +kernel
theorem dX6_ease_69 : decode cX6_ease 69 = .ok (.getfield 186, 3) := by decide +kernel
theorem dX6_ease_72 : decode cX6_ease 72 = .ok (.iload_n 1, 1) := by decide +kernel
theorem dX6_ease_73 : decode cX6_ease 73 = .ok (.iaload, 1) := by decide +kernel
theorem dX6_ease_74 : decode cX6_ease 74 = .ok (.goto 5, 3) := by decide +kernel
theorem dX6_ease_77 : decode cX6_ease 77 = .ok (.bipush (-9), 2) := by decide +kernel
theorem dX6_ease_79 : decode cX6_ease 79 = .ok (.ireturn, 1) := by decide +kernel
theorem dX6_stuck_0 : decode cX6_stuck 0 = .ok (.aload_n 0, 1) := by decide +kernel
theorem dX6_stuck_1 : decode cX6_stuck 1 = .ok (.invokevirtual 108, 3) := by decide +kernel
theorem dX6_stuck_4 : decode cX6_stuck 4 = .ok (.ifCond .eq 6, 3) := by decide +kernel
theorem dX6_stuck_7 : decode cX6_stuck 7 = .ok (.bipush (-3), 2) := by decide +kernel
theorem dX6_stuck_9 : decode cX6_stuck 9 = .ok (.ireturn, 1) := by decide +kernel
theorem dX6_stuck_10 : decode cX6_stuck 10 = .ok (.aload_n 0, 1) := by decide +kernel
theorem dX6_stuck_11 : decode cX6_stuck 11 = .ok (.invokevirtual 180, 3) := by decide +kernel
theorem dX6_stuck_14 : decode cX6_stuck 14 = .ok (.aload_n 0, 1) := by decide +kernel
theorem dX6_stuck_15 : decode cX6_stuck 15 = .ok (.getfield 47, 3) := by decide +kernel
theorem dX6_stuck_18 : decode cX6_stuck 18 = .ok (.getfield 189, 3) := by decide +kernel
theorem dX6_stuck_21 : decode cX6_stuck 21 = .ok (.ireturn, 1) := by decide +kernel
theorem dX6_help_0 : decode cX6_help 0 = .ok (.aload_n 0, 1) := by decide +kernel
theorem dX6_help_1 : decode cX6_help 1 = .ok (.iload_n 1, 1) := by decide +kernel
theorem dX6_help_2 : decode cX6_help 2 = .ok (.iload_n 2, 1) := by decide +kernel
theorem dX6_help_3 : decode cX6_help 3 = .ok (.invokevirtual 131, 3) := by decide +kernel
theorem dX6_help_6 : decode cX6_help 6 = .ok (.ifCond .eq 5, 3) := by decide +kernel
theorem dX6_help_9 : decode cX6_help 9 = .ok (.iconst (-1), 1) := by decide +kernel
theorem dX6_help_10 : decode cX6_help 10 = .ok (.ireturn, 1) := by decide +kernel
theorem dX6_help_11 : decode cX6_help 11 = .ok (.aload_n 0, 1) := by decide +kernel
theorem dX6_help_12 : decode cX6_help 12 = .ok (.iload_n 3, 1) := by decide +kernel
theorem dX6_help_13 : decode cX6_help 13 = .ok (.invokevirtual 124, 3) := by decide +kernel
theorem dX6_help_16 : decode cX6_help 16 = .ok (.ifCond .eq 6, 3) := by decide +kernel
theorem dX6_help_19 : decode cX6_help 19 = .ok (.bipush (-2), 2) := by decide +kernel
theorem dX6_help_21 : decode cX6_help 21 = .ok (.ireturn, 1) := by decide +kernel
theorem dX6_help_22 : decode cX6_help 22 = .ok (.aload_n 0, 1) := by decide +kernel
theorem dX6_help_23 : decode cX6_help 23 = .ok (.getfield 25, 3) := by decide +kernel
theorem dX6_help_26 : decode cX6_help 26 = .ok (.aload_n 0, 1) := by decide +kernel
theorem dX6_help_27 : decode cX6_help 27 = .ok (.getfield 21, 3) := by decide +kernel
theorem dX6_help_30 : decode cX6_help 30 = .ok (.invokevirtual 192, 3) := by decide +kernel
theorem dX6_help_33 : decode cX6_help 33 = .ok (.aload_n 0, 1) := by decide +kernel
theorem dX6_help_34 : decode cX6_help 34 = .ok (.getfield 25, 3) := by decide +kernel
theorem dX6_help_37 : decode cX6_help 37 = .ok (.getfield 135, 3) := by decide +kernel
theorem dX6_help_40 : decode cX6_help 40 = .ok (.iload_n 3, 1) := by decide +kernel
theorem dX6_help_41 : decode cX6_help 41 = .ok (.iload_n 1, 1) := by decide +kernel
theorem dX6_help_42 : decode cX6_help 42 = .ok (.iastore, 1) := by decide +kernel
theorem dX6_help_43 : decode cX6_help 43 = .ok (.aload_n 0, 1) := by decide +kernel
theorem dX6_help_44 : decode cX6_help 44 = .ok (.getfield 25, 3) := by decide +kernel
theorem dX6_help_47 : decode cX6_help 47 = .ok (.getfield 138, 3) := by decide +kernel
theorem dX6_help_50 : decode cX6_help 50 = .ok (.iload_n 3, 1) := by decide +kernel
theorem dX6_help_51 : decode cX6_help 51 = .ok (.iload_n 2, 1) := by decide +kernel
theorem dX6_help_52 : decode cX6_help 52 = .ok (.iastore, 1) := by decide +kernel
theorem dX6_help_53 : decode cX6_help 53 = .ok (.aload_n 0, 1) := by decide +kernel
theorem dX6_help_54 : decode cX6_help 54 = .ok (.getfield 25, 3) := by decide +kernel
theorem dX6_help_57 : decode cX6_help 57 = .ok (.iload_n 3, 1) := by decide +kernel
theorem dX6_help_58 : decode cX6_help 58 = .ok (.invokevirtual 195, 3) := by decide +kernel
theorem dX6_help_61 : decode cX6_help 61 = .ok (.aload_n 0, 1) := by decide +kernel
theorem dX6_help_62 : decode cX6_help 62 = .ok (.getfield 21, 3) := by decide +kernel
theorem dX6_help_65 : decode cX6_help 65 = .ok (.iload_n 1, 1) := by decide +kernel
theorem dX6_help_66 : decode cX6_help 66 = .ok (.invokevirtual 199, 3) := by decide +kernel
theorem dX6_help_69 : decode cX6_help 69 = .ok (.aload_n 0, 1) := by decide +kernel
theorem dX6_help_70 : decode cX6_help 70 = .ok (.getfield 21, 3) := by decide +kernel
theorem dX6_help_73 : decode cX6_help 73 = .ok (.iload_n 2, 1) := by decide +kernel
theorem dX6_help_74 : decode cX6_help 74 = .ok (.invokevirtual 199, 3) := by decide +kernel
theorem dX6_help_77 : decode cX6_help 77 = .ok (.iadd, 1) := by decide +kernel
theorem dX6_help_78 : decode cX6_help 78 = .ok (.istore 4, 2) := by decide +kernel
theorem dX6_help_80 : decode cX6_help 80 = .ok (.aload_n 0, 1) := by decide +kernel
theorem dX6_help_81 : decode cX6_help 81 = .ok (.getfield 25, 3) := by decide +kernel
theorem dX6_help_84 : decode cX6_help 84 = .ok (.iload_n 1, 1) := by decide +kernel
theorem dX6_help_85 : decode cX6_help 85 = .ok (.invokevirtual 199, 3) := by decide +kernel
theorem dX6_help_88 : decode cX6_help 88 = .ok (.aload_n 0, 1) := by decide +kernel
theorem dX6_help_89 : decode cX6_help 89 = .ok (.getfield 25, 3) := by decide +kernel
theorem dX6_help_92 : decode cX6_help 92 = .ok (.iload_n 2, 1) := by decide +kernel
theorem dX6_help_93 : decode cX6_help 93 = .ok (.invokevirtual 199, 3) := by decide +kernel
theorem dX6_help_96 : decode cX6_help 96 = .ok (.iadd, 1) := by decide +kernel
theorem dX6_help_97 : decode cX6_help 97 = .ok (.istore 5, 2) := by decide +kernel
theorem dX6_help_99 : decode cX6_help 99 = .ok (.iload 4, 2) := by decide +kernel
theorem dX6_help_101 : decode cX6_help 101 = .ok (.iload 5, 2) := by decide +kernel
theorem dX6_help_103 : decode cX6_help 103 = .ok (.isub, 1) := by decide +kernel
theorem dX6_help_104 : decode cX6_help 104 = .ok (.sipush 1000, 3) := by decide +kernel
theorem dX6_help_107 : decode cX6_help 107 = .ok (.iadd, 1) := by decide +kernel
theorem dX6_help_108 : decode cX6_help 108 = .ok (.ireturn, 1) := by decide +kernel
theorem dX6_knowLeast_0 : decode cX6_knowLeast 0 = .ok (.aload_n 0, 1) := by decide +kernel
theorem dX6_knowLeast_1 : decode cX6_knowLeast 1 = .ok (.getfield 51, 3) := by decide +kernel
theorem dX6_knowLeast_4 : decode cX6_knowLeast 4 = .ok (.ifCond .ne 15, 3) := by decide +kernel
theorem dX6_knowLeast_7 : decode cX6_knowLeast 7 = .ok (.aload_n 0, 1) := by decide +kernel
theorem dX6_knowLeast_8 : decode cX6_knowLeast 8 = .ok (.getfield 47, 3) := by decide +kernel
theorem dX6_knowLeast_11 : decode cX6_knowLeast 11 = .ok (.invokevirtual 202, 3) := by decide +kernel
theorem dX6_knowLeast_14 : decode cX6_knowLeast 14 = .ok (.aload_n 0, 1) := by decide +kernel
theorem dX6_knowLeast_15 : decode cX6_knowLeast 15 = .ok (.iconst 1, 1) := by decide +kernel
theorem dX6_knowLeast_16 : decode cX6_knowLeast 16 = .ok (.putfield 51, 3) := by decide +kernel
theorem dX6_knowLeast_19 : decode cX6_knowLeast 19 = .ok (.return_, 1) := by decide +kernel
theorem dX6_reading_0 : decode cX6_reading 0 = .ok (.aload_n 0, 1) := by decide +kernel
theorem dX6_reading_1 : decode cX6_reading 1 = .ok (.iload_n 1, 1) := by decide +kernel
theorem dX6_reading_2 : decode cX6_reading 2 = .ok (.invokevirtual 96, 3) := by decide +kernel
theorem dX6_reading_5 : decode cX6_reading 5 = .ok (.ifCond .eq 5, 3) := by decide +kernel
theorem dX6_reading_8 : decode cX6_reading 8 = .ok (.iconst (-1), 1) := by decide +kernel
theorem dX6_reading_9 : decode cX6_reading 9 = .ok (.ireturn, 1) := by decide +kernel
theorem dX6_reading_10 : decode cX6_reading 10 = .ok (.aload_n 0, 1) := by decide +kernel
theorem dX6_reading_11 : decode cX6_reading 11 = .ok (.iload_n 2, 1) := by decide +kernel
theorem dX6_reading_12 : decode cX6_reading 12 = .ok (.invokevirtual 141, 3) := by decide +kernel
theorem dX6_reading_15 : decode cX6_reading 15 = .ok (.ifCond .ne 10, 3) := by decide +kernel
theorem dX6_reading_18 : decode cX6_reading 18 = .ok (.iload_n 3, 1) := by decide +kernel
theorem dX6_reading_19 : decode cX6_reading 19 = .ok (.invokestatic 112, 3) := by decide +kernel
theorem dX6_reading_22 : decode cX6_reading 22 = .ok (.ifCond .eq 6, 3) := by decide +kernel
theorem dX6_reading_25 : decode cX6_reading 25 = .ok (.bipush (-2), 2) := by decide +kernel
theorem dX6_reading_27 : decode cX6_reading 27 = .ok (.ireturn, 1) := by decide +kernel
theorem dX6_reading_28 : decode cX6_reading 28 = .ok (.aload_n 0, 1) := by decide +kernel
theorem dX6_reading_29 : decode cX6_reading 29 = .ok (.getfield 31, 3) := by decide +kernel
theorem dX6_reading_32 : decode cX6_reading 32 = .ok (.getfield 87, 3) := by decide +kernel
theorem dX6_reading_35 : decode cX6_reading 35 = .ok (.bipush 8, 2) := by decide +kernel
theorem dX6_reading_37 : decode cX6_reading 37 = .ok (.if_icmp .lt 8, 3) := by decide +kernel
theorem dX6_reading_40 : decode cX6_reading 40 = .ok (.bipush (-4), 2) := by decide +kernel
theorem dX6_reading_42 : decode cX6_reading 42 = .ok (.goto 13, 3) := by decide +kernel
theorem dX6_reading_45 : decode cX6_reading 45 = .ok (.aload_n 0, 1) := by decide +kernel
theorem dX6_reading_46 : decode cX6_reading 46 = .ok (.getfield 31, 3) := by decide +kernel
