theorem f123_0 : z_fetch 123 0 = some (.aload 0, 1, 0) := by decide +kernel
theorem f123_1 : z_fetch 123 1 = some (.goto_w 1668245870, 4, 0) := by decide +kernel
theorem f123_4 : z_fetch 123 4 = some (.invokevirtual 120, 7, 0) := by decide +kernel
theorem f123_7 : z_fetch 123 7 = some (.ifCond .eq 0, 10, 12) := by decide +kernel
theorem f123_10 : z_fetch 123 10 = some (.iconst 0, 11, 0) := by decide +kernel
theorem f123_11 : z_fetch 123 11 = some (.ireturn, 12, 0) := by decide +kernel
theorem f123_12 : z_fetch 123 12 = some (.aload 0, 13, 0) := by decide +kernel
theorem f123_13 : z_fetch 123 13 = some (.goto_w 512970880104, 16, 0) := by decide +kernel
theorem f123_16 : z_fetch 123 16 = some (.invokevirtual 120, 19, 0) := by decide +kernel
theorem f123_19 : z_fetch 123 19 = some (.ifCond .eq 0, 22, 24) := by decide +kernel
theorem f123_22 : z_fetch 123 22 = some (.iconst 1, 23, 0) := by decide +kernel
theorem f123_23 : z_fetch 123 23 = some (.ireturn, 24, 0) := by decide +kernel
theorem f123_24 : z_fetch 123 24 = some (.aload 0, 25, 0) := by decide +kernel
theorem f123_25 : z_fetch 123 25 = some (.goto_w 6383461, 28, 0) := by decide +kernel
theorem f123_28 : z_fetch 123 28 = some (.invokevirtual 120, 31, 0) := by decide +kernel
theorem f123_31 : z_fetch 123 31 = some (.ifCond .eq 0, 34, 36) := by decide +kernel
theorem f123_34 : z_fetch 123 34 = some (.iconst 2, 35, 0) := by decide +kernel
theorem f123_35 : z_fetch 123 35 = some (.ireturn, 36, 0) := by decide +kernel
theorem f123_36 : z_fetch 123 36 = some (.aload 0, 37, 0) := by decide +kernel
theorem f123_37 : z_fetch 123 37 = some (.goto_w 448311223411, 40, 0) := by decide +kernel
theorem f123_40 : z_fetch 123 40 = some (.invokevirtual 120, 43, 0) := by decide +kernel
theorem f123_43 : z_fetch 123 43 = some (.ifCond .eq 0, 46, 48) := by decide +kernel
theorem f123_46 : z_fetch 123 46 = some (.iconst 3, 47, 0) := by decide +kernel
theorem f123_47 : z_fetch 123 47 = some (.ireturn, 48, 0) := by decide +kernel
theorem f123_48 : z_fetch 123 48 = some (.aload 0, 49, 0) := by decide +kernel
theorem f123_49 : z_fetch 123 49 = some (.goto_w 32497656931444581, 52, 0) := by decide +kernel
theorem f123_52 : z_fetch 123 52 = some (.invokevirtual 120, 55, 0) := by decide +kernel
theorem f123_55 : z_fetch 123 55 = some (.ifCond .eq 0, 58, 60) := by decide +kernel
theorem f123_58 : z_fetch 123 58 = some (.iconst 4, 59, 0) := by decide +kernel
theorem f123_59 : z_fetch 123 59 = some (.ireturn, 60, 0) := by decide +kernel
theorem f123_60 : z_fetch 123 60 = some (.aload 0, 61, 0) := by decide +kernel
theorem f123_61 : z_fetch 123 61 = some (.goto_w 483006772069, 64, 0) := by decide +kernel
theorem f123_64 : z_fetch 123 64 = some (.invokevirtual 120, 67, 0) := by decide +kernel
theorem f123_67 : z_fetch 123 67 = some (.ifCond .eq 0, 70, 72) := by decide +kernel
theorem f123_70 : z_fetch 123 70 = some (.iconst 5, 71, 0) := by decide +kernel
theorem f123_71 : z_fetch 123 71 = some (.ireturn, 72, 0) := by decide +kernel
theorem f123_72 : z_fetch 123 72 = some (.aload 0, 73, 0) := by decide +kernel
theorem f123_73 : z_fetch 123 73 = some (.goto_w 444150998386, 76, 0) := by decide +kernel
theorem f123_76 : z_fetch 123 76 = some (.invokevirtual 120, 79, 0) := by decide +kernel
theorem f123_79 : z_fetch 123 79 = some (.ifCond .eq 0, 82, 85) := by decide +kernel
theorem f123_82 : z_fetch 123 82 = some (.iconst 6, 84, 0) := by decide +kernel
theorem f123_84 : z_fetch 123 84 = some (.ireturn, 85, 0) := by decide +kernel
theorem f123_85 : z_fetch 123 85 = some (.aload 0, 86, 0) := by decide +kernel
theorem f123_86 : z_fetch 123 86 = some (.goto_w 499850634610, 89, 0) := by decide +kernel
theorem f123_89 : z_fetch 123 89 = some (.invokevirtual 120, 92, 0) := by decide +kernel
theorem f123_92 : z_fetch 123 92 = some (.ifCond .eq 0, 95, 100) := by decide +kernel
theorem f123_95 : z_fetch 123 95 = some (.iconst 7, 97, 0) := by decide +kernel
theorem f123_97 : z_fetch 123 97 = some (.goto 0, 100, 116) := by decide +kernel
theorem f123_100 : z_fetch 123 100 = some (.aload 0, 101, 0) := by decide +kernel
theorem f123_101 : z_fetch 123 101 = some (.goto_w 6578553, 104, 0) := by decide +kernel
theorem f123_104 : z_fetch 123 104 = some (.invokevirtual 120, 107, 0) := by decide +kernel
theorem f123_107 : z_fetch 123 107 = some (.ifCond .eq 0, 110, 115) := by decide +kernel
theorem f123_110 : z_fetch 123 110 = some (.iconst 8, 112, 0) := by decide +kernel
theorem f123_112 : z_fetch 123 112 = some (.goto 0, 115, 116) := by decide +kernel
theorem f123_115 : z_fetch 123 115 = some (.iconst (-1), 116, 0) := by decide +kernel
theorem f123_116 : z_fetch 123 116 = some (.ireturn, 117, 0) := by decide +kernel
theorem f124_0 : z_fetch 124 0 = some (.aload 0, 1, 0) := by decide +kernel
theorem f124_1 : z_fetch 124 1 = some (.instanceof 11, 4, 3) := by decide +kernel
theorem f124_4 : z_fetch 124 4 = some (.iconst 400, 7, 0) := by decide +kernel
theorem f124_7 : z_fetch 124 7 = some (.aload 0, 8, 0) := by decide +kernel
theorem f124_8 : z_fetch 124 8 = some (.getfield 11, 11, 16) := by decide +kernel
theorem f124_11 : z_fetch 124 11 = some (.imul, 12, 0) := by decide +kernel
theorem f124_12 : z_fetch 124 12 = some (.aload 0, 13, 0) := by decide +kernel
theorem f124_13 : z_fetch 124 13 = some (.instanceof 11, 16, 4) := by decide +kernel
theorem f124_16 : z_fetch 124 16 = some (.aload 0, 17, 0) := by decide +kernel
theorem f124_17 : z_fetch 124 17 = some (.getfield 11, 20, 16) := by decide +kernel
theorem f124_20 : z_fetch 124 20 = some (.iaload, 21, 0) := by decide +kernel
theorem f124_21 : z_fetch 124 21 = some (.iadd, 22, 0) := by decide +kernel
theorem f124_22 : z_fetch 124 22 = some (.iload 1, 23, 0) := by decide +kernel
theorem f124_23 : z_fetch 124 23 = some (.iconst 16, 25, 0) := by decide +kernel
theorem f124_25 : z_fetch 124 25 = some (.iload 2, 26, 0) := by decide +kernel
theorem f124_26 : z_fetch 124 26 = some (.imul, 27, 0) := by decide +kernel
theorem f124_27 : z_fetch 124 27 = some (.iadd, 28, 0) := by decide +kernel
theorem f124_28 : z_fetch 124 28 = some (.iastore, 29, 0) := by decide +kernel
theorem f124_29 : z_fetch 124 29 = some (.aload 0, 30, 0) := by decide +kernel
theorem f124_30 : z_fetch 124 30 = some (.instanceof 11, 33, 4) := by decide +kernel
theorem f124_33 : z_fetch 124 33 = some (.aload 0, 34, 0) := by decide +kernel
theorem f124_34 : z_fetch 124 34 = some (.getfield 11, 37, 16) := by decide +kernel
theorem f124_37 : z_fetch 124 37 = some (.dup2, 38, 0) := by decide +kernel
theorem f124_38 : z_fetch 124 38 = some (.iaload, 39, 0) := by decide +kernel
theorem f124_39 : z_fetch 124 39 = some (.iconst 1, 40, 0) := by decide +kernel
theorem f124_40 : z_fetch 124 40 = some (.iadd, 41, 0) := by decide +kernel
theorem f124_41 : z_fetch 124 41 = some (.iastore, 42, 0) := by decide +kernel
theorem f124_42 : z_fetch 124 42 = some (.return_, 43, 0) := by decide +kernel
theorem f125_0 : z_fetch 125 0 = some (.aload 0, 1, 0) := by decide +kernel
theorem f125_1 : z_fetch 125 1 = some (.getfield 11, 4, 17) := by decide +kernel
theorem f125_4 : z_fetch 125 4 = some (.iconst 60, 6, 0) := by decide +kernel
theorem f125_6 : z_fetch 125 6 = some (.if_icmp .ne 0, 9, 16) := by decide +kernel
theorem f125_9 : z_fetch 125 9 = some (.aload 0, 10, 0) := by decide +kernel
theorem f125_10 : z_fetch 125 10 = some (.iconst 3, 11, 0) := by decide +kernel
theorem f125_11 : z_fetch 125 11 = some (.iload 1, 12, 0) := by decide +kernel
theorem f125_12 : z_fetch 125 12 = some (.invokevirtual 116, 15, 0) := by decide +kernel
theorem f125_15 : z_fetch 125 15 = some (.ireturn, 16, 1) := by decide +kernel
theorem f125_16 : z_fetch 125 16 = some (.aload 0, 17, 0) := by decide +kernel
theorem f125_17 : z_fetch 125 17 = some (.dup, 18, 0) := by decide +kernel
theorem f125_18 : z_fetch 125 18 = some (.getfield 11, 21, 17) := by decide +kernel
theorem f125_21 : z_fetch 125 21 = some (.iconst 1, 22, 0) := by decide +kernel
theorem f125_22 : z_fetch 125 22 = some (.iadd, 23, 0) := by decide +kernel
theorem f125_23 : z_fetch 125 23 = some (.putfield 11, 26, 17) := by decide +kernel
theorem f125_26 : z_fetch 125 26 = some (.iconst 1, 27, 0) := by decide +kernel
theorem f125_27 : z_fetch 125 27 = some (.ireturn, 28, 1) := by decide +kernel
theorem f126_0 : z_fetch 126 0 = some (.aload 0, 1, 0) := by decide +kernel
theorem f126_1 : z_fetch 126 1 = some (.getfield 11, 4, 18) := by decide +kernel
theorem f126_4 : z_fetch 126 4 = some (.iconst 10, 6, 0) := by decide +kernel
theorem f126_6 : z_fetch 126 6 = some (.if_icmp .ne 0, 9, 19) := by decide +kernel
theorem f126_9 : z_fetch 126 9 = some (.aload 0, 10, 0) := by decide +kernel
theorem f126_10 : z_fetch 126 10 = some (.iconst 2, 11, 0) := by decide +kernel
theorem f126_11 : z_fetch 126 11 = some (.aload 0, 12, 0) := by decide +kernel
theorem f126_12 : z_fetch 126 12 = some (.getfield 11, 15, 13) := by decide +kernel
theorem f126_15 : z_fetch 126 15 = some (.invokevirtual 116, 18, 0) := by decide +kernel
theorem f126_18 : z_fetch 126 18 = some (.ireturn, 19, 1) := by decide +kernel
theorem f126_19 : z_fetch 126 19 = some (.aload 0, 20, 0) := by decide +kernel
theorem f126_20 : z_fetch 126 20 = some (.dup, 21, 0) := by decide +kernel
theorem f126_21 : z_fetch 126 21 = some (.getfield 11, 24, 18) := by decide +kernel
theorem f126_24 : z_fetch 126 24 = some (.iconst 1, 25, 0) := by decide +kernel
theorem f126_25 : z_fetch 126 25 = some (.iadd, 26, 0) := by decide +kernel
theorem f126_26 : z_fetch 126 26 = some (.putfield 11, 29, 18) := by decide +kernel
theorem f126_29 : z_fetch 126 29 = some (.aload 0, 30, 0) := by decide +kernel
theorem f126_30 : z_fetch 126 30 = some (.instanceof 11, 33, 20) := by decide +kernel
theorem f126_33 : z_fetch 126 33 = some (.aload 0, 34, 0) := by decide +kernel
theorem f126_34 : z_fetch 126 34 = some (.getfield 11, 37, 21) := by decide +kernel
theorem f126_37 : z_fetch 126 37 = some (.iload 1, 38, 0) := by decide +kernel
theorem f126_38 : z_fetch 126 38 = some (.iastore, 39, 0) := by decide +kernel
theorem f126_39 : z_fetch 126 39 = some (.aload 0, 40, 0) := by decide +kernel
theorem f126_40 : z_fetch 126 40 = some (.dup, 41, 0) := by decide +kernel
theorem f126_41 : z_fetch 126 41 = some (.getfield 11, 44, 21) := by decide +kernel
theorem f126_44 : z_fetch 126 44 = some (.iconst 1, 45, 0) := by decide +kernel
theorem f126_45 : z_fetch 126 45 = some (.iadd, 46, 0) := by decide +kernel
theorem f126_46 : z_fetch 126 46 = some (.putfield 11, 49, 21) := by decide +kernel
theorem f126_49 : z_fetch 126 49 = some (.iconst 1, 50, 0) := by decide +kernel
theorem f126_50 : z_fetch 126 50 = some (.ireturn, 51, 1) := by decide +kernel
theorem f127_0 : z_fetch 127 0 = some (.iload 0, 1, 0) := by decide +kernel
theorem f127_1 : z_fetch 127 1 = some (.iconst 13, 3, 0) := by decide +kernel
theorem f127_3 : z_fetch 127 3 = some (.if_icmp .ne 0, 6, 10) := by decide +kernel
theorem f127_6 : z_fetch 127 6 = some (.iconst 1, 7, 0) := by decide +kernel
theorem f127_7 : z_fetch 127 7 = some (.goto 0, 10, 31) := by decide +kernel
theorem f127_10 : z_fetch 127 10 = some (.iload 0, 11, 0) := by decide +kernel
theorem f127_11 : z_fetch 127 11 = some (.iconst 12, 13, 0) := by decide +kernel
theorem f127_13 : z_fetch 127 13 = some (.if_icmp .ne 0, 16, 20) := by decide +kernel
theorem f127_16 : z_fetch 127 16 = some (.iconst 2, 17, 0) := by decide +kernel
theorem f127_17 : z_fetch 127 17 = some (.goto 0, 20, 31) := by decide +kernel
theorem f127_20 : z_fetch 127 20 = some (.iload 0, 21, 0) := by decide +kernel
theorem f127_21 : z_fetch 127 21 = some (.iconst 11, 23, 0) := by decide +kernel
theorem f127_23 : z_fetch 127 23 = some (.if_icmp .ne 0, 26, 30) := by decide +kernel
theorem f127_26 : z_fetch 127 26 = some (.iconst 3, 27, 0) := by decide +kernel
theorem f127_27 : z_fetch 127 27 = some (.goto 0, 30, 31) := by decide +kernel
theorem f127_30 : z_fetch 127 30 = some (.iconst 0, 31, 0) := by decide +kernel
theorem f127_31 : z_fetch 127 31 = some (.ireturn, 32, 0) := by decide +kernel
theorem f128_0 : z_fetch 128 0 = some (.aload 0, 1, 0) := by decide +kernel
theorem f128_1 : z_fetch 128 1 = some (.getfield 11, 4, 21) := by decide +kernel
theorem f128_4 : z_fetch 128 4 = some (.ifCond .le 0, 7, 76) := by decide +kernel
theorem f128_7 : z_fetch 128 7 = some (.aload 0, 8, 0) := by decide +kernel
theorem f128_8 : z_fetch 128 8 = some (.instanceof 11, 11, 20) := by decide +kernel
theorem f128_11 : z_fetch 128 11 = some (.aload 0, 12, 0) := by decide +kernel
theorem f128_12 : z_fetch 128 12 = some (.getfield 11, 15, 21) := by decide +kernel
theorem f128_15 : z_fetch 128 15 = some (.iconst 1, 16, 0) := by decide +kernel
theorem f128_16 : z_fetch 128 16 = some (.isub, 17, 0) := by decide +kernel
theorem f128_17 : z_fetch 128 17 = some (.iaload, 18, 0) := by decide +kernel
theorem f128_18 : z_fetch 128 18 = some (.invokestatic 127, 21, 0) := by decide +kernel
theorem f128_21 : z_fetch 128 21 = some (.iload 1, 22, 0) := by decide +kernel
theorem f128_22 : z_fetch 128 22 = some (.if_icmp .lt 0, 25, 76) := by decide +kernel
theorem f128_25 : z_fetch 128 25 = some (.aload 0, 26, 0) := by decide +kernel
theorem f128_26 : z_fetch 128 26 = some (.dup, 27, 0) := by decide +kernel
theorem f128_27 : z_fetch 128 27 = some (.getfield 11, 30, 21) := by decide +kernel
theorem f128_30 : z_fetch 128 30 = some (.iconst 1, 31, 0) := by decide +kernel
theorem f128_31 : z_fetch 128 31 = some (.isub, 32, 0) := by decide +kernel
theorem f128_32 : z_fetch 128 32 = some (.putfield 11, 35, 21) := by decide +kernel
theorem f128_35 : z_fetch 128 35 = some (.aload 0, 36, 0) := by decide +kernel
theorem f128_36 : z_fetch 128 36 = some (.aload 0, 37, 0) := by decide +kernel
theorem f128_37 : z_fetch 128 37 = some (.instanceof 11, 40, 20) := by decide +kernel
theorem f128_40 : z_fetch 128 40 = some (.aload 0, 41, 0) := by decide +kernel
theorem f128_41 : z_fetch 128 41 = some (.getfield 11, 44, 21) := by decide +kernel
theorem f128_44 : z_fetch 128 44 = some (.iaload, 45, 0) := by decide +kernel
theorem f128_45 : z_fetch 128 45 = some (.iconst 0, 46, 0) := by decide +kernel
theorem f128_46 : z_fetch 128 46 = some (.invokevirtual 124, 49, 0) := by decide +kernel
theorem f128_49 : z_fetch 128 49 = some (.aload 0, 50, 0) := by decide +kernel
theorem f128_50 : z_fetch 128 50 = some (.instanceof 11, 53, 20) := by decide +kernel
theorem f128_53 : z_fetch 128 53 = some (.aload 0, 54, 0) := by decide +kernel
theorem f128_54 : z_fetch 128 54 = some (.getfield 11, 57, 21) := by decide +kernel
theorem f128_57 : z_fetch 128 57 = some (.iaload, 58, 0) := by decide +kernel
theorem f128_58 : z_fetch 128 58 = some (.iconst 11, 60, 0) := by decide +kernel
theorem f128_60 : z_fetch 128 60 = some (.if_icmp .ne 0, 63, 0) := by decide +kernel
theorem f128_63 : z_fetch 128 63 = some (.aload 0, 64, 0) := by decide +kernel
theorem f128_64 : z_fetch 128 64 = some (.dup, 65, 0) := by decide +kernel
theorem f128_65 : z_fetch 128 65 = some (.getfield 11, 68, 18) := by decide +kernel
theorem f128_68 : z_fetch 128 68 = some (.iconst 1, 69, 0) := by decide +kernel
theorem f128_69 : z_fetch 128 69 = some (.isub, 70, 0) := by decide +kernel
theorem f128_70 : z_fetch 128 70 = some (.putfield 11, 73, 18) := by decide +kernel
theorem f128_73 : z_fetch 128 73 = some (.goto 0, 76, 0) := by decide +kernel
theorem f128_76 : z_fetch 128 76 = some (.return_, 77, 0) := by decide +kernel
theorem f129_0 : z_fetch 129 0 = some (.aload 0, 1, 0) := by decide +kernel
theorem f129_1 : z_fetch 129 1 = some (.invokevirtual 117, 4, 0) := by decide +kernel
theorem f129_4 : z_fetch 129 4 = some (.pop, 5, 0) := by decide +kernel
theorem f129_5 : z_fetch 129 5 = some (.aload 0, 6, 0) := by decide +kernel
theorem f129_6 : z_fetch 129 6 = some (.getfield 11, 9, 13) := by decide +kernel
theorem f129_9 : z_fetch 129 9 = some (.istore 1, 10, 0) := by decide +kernel
theorem f129_10 : z_fetch 129 10 = some (.aload 0, 11, 0) := by decide +kernel
theorem f129_11 : z_fetch 129 11 = some (.aload 0, 12, 0) := by decide +kernel
theorem f129_12 : z_fetch 129 12 = some (.getfield 11, 15, 13) := by decide +kernel
theorem f129_15 : z_fetch 129 15 = some (.invokevirtual 118, 18, 0) := by decide +kernel
theorem f129_18 : z_fetch 129 18 = some (.ifCond .eq 0, 21, 52) := by decide +kernel
theorem f129_21 : z_fetch 129 21 = some (.aload 0, 22, 0) := by decide +kernel
theorem f129_22 : z_fetch 129 22 = some (.iconst 0, 23, 0) := by decide +kernel
theorem f129_23 : z_fetch 129 23 = some (.iconst 99999, 25, 0) := by decide +kernel
theorem f129_25 : z_fetch 129 25 = some (.invokevirtual 122, 28, 0) := by decide +kernel
theorem f129_28 : z_fetch 129 28 = some (.ifCond .eq 0, 31, 39) := by decide +kernel
theorem f129_31 : z_fetch 129 31 = some (.aload 0, 32, 0) := by decide +kernel
theorem f129_32 : z_fetch 129 32 = some (.iload 1, 33, 0) := by decide +kernel
theorem f129_33 : z_fetch 129 33 = some (.invokevirtual 125, 36, 0) := by decide +kernel
theorem f129_36 : z_fetch 129 36 = some (.ifCond .ne 0, 39, 41) := by decide +kernel
theorem f129_39 : z_fetch 129 39 = some (.iconst 0, 40, 0) := by decide +kernel
theorem f129_40 : z_fetch 129 40 = some (.ireturn, 41, 1) := by decide +kernel
theorem f129_41 : z_fetch 129 41 = some (.aload 0, 42, 0) := by decide +kernel
theorem f129_42 : z_fetch 129 42 = some (.iconst 0, 43, 0) := by decide +kernel
theorem f129_43 : z_fetch 129 43 = some (.aload 0, 44, 0) := by decide +kernel
theorem f129_44 : z_fetch 129 44 = some (.getfield 11, 47, 15) := by decide +kernel
theorem f129_47 : z_fetch 129 47 = some (.invokevirtual 124, 50, 0) := by decide +kernel
theorem f129_50 : z_fetch 129 50 = some (.iconst 1, 51, 0) := by decide +kernel
theorem f129_51 : z_fetch 129 51 = some (.ireturn, 52, 1) := by decide +kernel
theorem f129_52 : z_fetch 129 52 = some (.aload 0, 53, 0) := by decide +kernel
theorem f129_53 : z_fetch 129 53 = some (.invokevirtual 123, 56, 0) := by decide +kernel
theorem f129_56 : z_fetch 129 56 = some (.istore 2, 57, 0) := by decide +kernel
theorem f129_57 : z_fetch 129 57 = some (.iload 2, 58, 0) := by decide +kernel
theorem f129_58 : z_fetch 129 58 = some (.ifCond .ge 0, 61, 68) := by decide +kernel
theorem f129_61 : z_fetch 129 61 = some (.aload 0, 62, 0) := by decide +kernel
theorem f129_62 : z_fetch 129 62 = some (.iconst 0, 63, 0) := by decide +kernel
theorem f129_63 : z_fetch 129 63 = some (.iload 1, 64, 0) := by decide +kernel
theorem f129_64 : z_fetch 129 64 = some (.invokevirtual 116, 67, 0) := by decide +kernel
theorem f129_67 : z_fetch 129 67 = some (.ireturn, 68, 1) := by decide +kernel
theorem f129_68 : z_fetch 129 68 = some (.aload 0, 69, 0) := by decide +kernel
theorem f129_69 : z_fetch 129 69 = some (.iload 1, 70, 0) := by decide +kernel
theorem f129_70 : z_fetch 129 70 = some (.invokevirtual 125, 73, 0) := by decide +kernel
theorem f129_73 : z_fetch 129 73 = some (.ifCond .ne 0, 76, 78) := by decide +kernel
theorem f129_76 : z_fetch 129 76 = some (.iconst 0, 77, 0) := by decide +kernel
theorem f129_77 : z_fetch 129 77 = some (.ireturn, 78, 1) := by decide +kernel
theorem f129_78 : z_fetch 129 78 = some (.aload 0, 79, 0) := by decide +kernel
theorem f129_79 : z_fetch 129 79 = some (.invokevirtual 121, 82, 0) := by decide +kernel
theorem f129_82 : z_fetch 129 82 = some (.aload 0, 83, 0) := by decide +kernel
theorem f129_83 : z_fetch 129 83 = some (.iconst 1, 84, 0) := by decide +kernel
theorem f129_84 : z_fetch 129 84 = some (.iload 2, 85, 0) := by decide +kernel
theorem f129_85 : z_fetch 129 85 = some (.invokevirtual 124, 88, 0) := by decide +kernel
theorem f129_88 : z_fetch 129 88 = some (.iconst 1, 89, 0) := by decide +kernel
theorem f129_89 : z_fetch 129 89 = some (.ireturn, 90, 1) := by decide +kernel
theorem f130_0 : z_fetch 130 0 = some (.aload 0, 1, 0) := by decide +kernel
theorem f130_1 : z_fetch 130 1 = some (.invokevirtual 129, 4, 0) := by decide +kernel
theorem f130_4 : z_fetch 130 4 = some (.ifCond .ne 0, 7, 9) := by decide +kernel
theorem f130_7 : z_fetch 130 7 = some (.iconst 0, 8, 0) := by decide +kernel
theorem f130_8 : z_fetch 130 8 = some (.ireturn, 9, 1) := by decide +kernel
theorem f130_9 : z_fetch 130 9 = some (.aload 0, 10, 0) := by decide +kernel
theorem f130_10 : z_fetch 130 10 = some (.invokevirtual 117, 13, 0) := by decide +kernel
theorem f130_13 : z_fetch 130 13 = some (.iconst 42, 15, 0) := by decide +kernel
theorem f130_15 : z_fetch 130 15 = some (.if_icmp .eq 0, 18, 27) := by decide +kernel
theorem f130_18 : z_fetch 130 18 = some (.aload 0, 19, 0) := by decide +kernel
theorem f130_19 : z_fetch 130 19 = some (.invokevirtual 117, 22, 0) := by decide +kernel
theorem f130_22 : z_fetch 130 22 = some (.iconst 47, 24, 0) := by decide +kernel
theorem f130_24 : z_fetch 130 24 = some (.if_icmp .ne 0, 27, 75) := by decide +kernel
theorem f130_27 : z_fetch 130 27 = some (.aload 0, 28, 0) := by decide +kernel
theorem f130_28 : z_fetch 130 28 = some (.instanceof 11, 31, 0) := by decide +kernel
theorem f130_31 : z_fetch 130 31 = some (.aload 0, 32, 0) := by decide +kernel
theorem f130_32 : z_fetch 130 32 = some (.getfield 11, 35, 13) := by decide +kernel
theorem f130_35 : z_fetch 130 35 = some (.baload, 36, 0) := by decide +kernel
theorem f130_36 : z_fetch 130 36 = some (.iconst 42, 38, 0) := by decide +kernel
theorem f130_38 : z_fetch 130 38 = some (.if_icmp .ne 0, 41, 45) := by decide +kernel
theorem f130_41 : z_fetch 130 41 = some (.iconst 4, 42, 0) := by decide +kernel
theorem f130_42 : z_fetch 130 42 = some (.goto 0, 45, 46) := by decide +kernel
theorem f130_45 : z_fetch 130 45 = some (.iconst 5, 46, 0) := by decide +kernel
theorem f130_46 : z_fetch 130 46 = some (.istore 1, 47, 0) := by decide +kernel
theorem f130_47 : z_fetch 130 47 = some (.aload 0, 48, 0) := by decide +kernel
theorem f130_48 : z_fetch 130 48 = some (.dup, 49, 0) := by decide +kernel
theorem f130_49 : z_fetch 130 49 = some (.getfield 11, 52, 13) := by decide +kernel
theorem f130_52 : z_fetch 130 52 = some (.iconst 1, 53, 0) := by decide +kernel
theorem f130_53 : z_fetch 130 53 = some (.iadd, 54, 0) := by decide +kernel
theorem f130_54 : z_fetch 130 54 = some (.putfield 11, 57, 13) := by decide +kernel
theorem f130_57 : z_fetch 130 57 = some (.aload 0, 58, 0) := by decide +kernel
theorem f130_58 : z_fetch 130 58 = some (.invokevirtual 129, 61, 0) := by decide +kernel
theorem f130_61 : z_fetch 130 61 = some (.ifCond .ne 0, 64, 66) := by decide +kernel
theorem f130_64 : z_fetch 130 64 = some (.iconst 0, 65, 0) := by decide +kernel
theorem f130_65 : z_fetch 130 65 = some (.ireturn, 66, 1) := by decide +kernel
theorem f130_66 : z_fetch 130 66 = some (.aload 0, 67, 0) := by decide +kernel
theorem f130_67 : z_fetch 130 67 = some (.iload 1, 68, 0) := by decide +kernel
theorem f130_68 : z_fetch 130 68 = some (.iconst 0, 69, 0) := by decide +kernel
theorem f130_69 : z_fetch 130 69 = some (.invokevirtual 124, 72, 0) := by decide +kernel
theorem f130_72 : z_fetch 130 72 = some (.goto 0, 75, 9) := by decide +kernel
theorem f130_75 : z_fetch 130 75 = some (.iconst 1, 76, 0) := by decide +kernel
theorem f130_76 : z_fetch 130 76 = some (.ireturn, 77, 1) := by decide +kernel
theorem f131_0 : z_fetch 131 0 = some (.aload 0, 1, 0) := by decide +kernel
theorem f131_1 : z_fetch 131 1 = some (.invokevirtual 130, 4, 0) := by decide +kernel
theorem f131_4 : z_fetch 131 4 = some (.ifCond .ne 0, 7, 9) := by decide +kernel
theorem f131_7 : z_fetch 131 7 = some (.iconst 0, 8, 0) := by decide +kernel
theorem f131_8 : z_fetch 131 8 = some (.ireturn, 9, 1) := by decide +kernel
theorem f131_9 : z_fetch 131 9 = some (.aload 0, 10, 0) := by decide +kernel
theorem f131_10 : z_fetch 131 10 = some (.invokevirtual 117, 13, 0) := by decide +kernel
theorem f131_13 : z_fetch 131 13 = some (.iconst 43, 15, 0) := by decide +kernel
theorem f131_15 : z_fetch 131 15 = some (.if_icmp .eq 0, 18, 27) := by decide +kernel
theorem f131_18 : z_fetch 131 18 = some (.aload 0, 19, 0) := by decide +kernel
theorem f131_19 : z_fetch 131 19 = some (.invokevirtual 117, 22, 0) := by decide +kernel
theorem f131_22 : z_fetch 131 22 = some (.iconst 45, 24, 0) := by decide +kernel
theorem f131_24 : z_fetch 131 24 = some (.if_icmp .ne 0, 27, 75) := by decide +kernel
theorem f131_27 : z_fetch 131 27 = some (.aload 0, 28, 0) := by decide +kernel
theorem f131_28 : z_fetch 131 28 = some (.instanceof 11, 31, 0) := by decide +kernel
theorem f131_31 : z_fetch 131 31 = some (.aload 0, 32, 0) := by decide +kernel
theorem f131_32 : z_fetch 131 32 = some (.getfield 11, 35, 13) := by decide +kernel
theorem f131_35 : z_fetch 131 35 = some (.baload, 36, 0) := by decide +kernel
theorem f131_36 : z_fetch 131 36 = some (.iconst 43, 38, 0) := by decide +kernel
theorem f131_38 : z_fetch 131 38 = some (.if_icmp .ne 0, 41, 45) := by decide +kernel
theorem f131_41 : z_fetch 131 41 = some (.iconst 2, 42, 0) := by decide +kernel
theorem f131_42 : z_fetch 131 42 = some (.goto 0, 45, 46) := by decide +kernel
theorem f131_45 : z_fetch 131 45 = some (.iconst 3, 46, 0) := by decide +kernel
theorem f131_46 : z_fetch 131 46 = some (.istore 1, 47, 0) := by decide +kernel
theorem f131_47 : z_fetch 131 47 = some (.aload 0, 48, 0) := by decide +kernel
theorem f131_48 : z_fetch 131 48 = some (.dup, 49, 0) := by decide +kernel
theorem f131_49 : z_fetch 131 49 = some (.getfield 11, 52, 13) := by decide +kernel
theorem f131_52 : z_fetch 131 52 = some (.iconst 1, 53, 0) := by decide +kernel
theorem f131_53 : z_fetch 131 53 = some (.iadd, 54, 0) := by decide +kernel
theorem f131_54 : z_fetch 131 54 = some (.putfield 11, 57, 13) := by decide +kernel
theorem f131_57 : z_fetch 131 57 = some (.aload 0, 58, 0) := by decide +kernel
theorem f131_58 : z_fetch 131 58 = some (.invokevirtual 130, 61, 0) := by decide +kernel
theorem f131_61 : z_fetch 131 61 = some (.ifCond .ne 0, 64, 66) := by decide +kernel
theorem f131_64 : z_fetch 131 64 = some (.iconst 0, 65, 0) := by decide +kernel
theorem f131_65 : z_fetch 131 65 = some (.ireturn, 66, 1) := by decide +kernel
theorem f131_66 : z_fetch 131 66 = some (.aload 0, 67, 0) := by decide +kernel
theorem f131_67 : z_fetch 131 67 = some (.iload 1, 68, 0) := by decide +kernel
theorem f131_68 : z_fetch 131 68 = some (.iconst 0, 69, 0) := by decide +kernel
theorem f131_69 : z_fetch 131 69 = some (.invokevirtual 124, 72, 0) := by decide +kernel
theorem f131_72 : z_fetch 131 72 = some (.goto 0, 75, 9) := by decide +kernel
theorem f131_75 : z_fetch 131 75 = some (.iconst 1, 76, 0) := by decide +kernel
theorem f131_76 : z_fetch 131 76 = some (.ireturn, 77, 1) := by decide +kernel
theorem f132_0 : z_fetch 132 0 = some (.aload 0, 1, 0) := by decide +kernel
theorem f132_1 : z_fetch 132 1 = some (.invokevirtual 131, 4, 0) := by decide +kernel
theorem f132_4 : z_fetch 132 4 = some (.ifCond .ne 0, 7, 9) := by decide +kernel
theorem f132_7 : z_fetch 132 7 = some (.iconst 0, 8, 0) := by decide +kernel
theorem f132_8 : z_fetch 132 8 = some (.ireturn, 9, 1) := by decide +kernel
theorem f132_9 : z_fetch 132 9 = some (.aload 0, 10, 0) := by decide +kernel
theorem f132_10 : z_fetch 132 10 = some (.invokevirtual 117, 13, 0) := by decide +kernel
theorem f132_13 : z_fetch 132 13 = some (.istore 1, 14, 0) := by decide +kernel
theorem f132_14 : z_fetch 132 14 = some (.aload 0, 15, 0) := by decide +kernel
theorem f132_15 : z_fetch 132 15 = some (.getfield 11, 18, 13) := by decide +kernel
theorem f132_18 : z_fetch 132 18 = some (.istore 2, 19, 0) := by decide +kernel
theorem f132_19 : z_fetch 132 19 = some (.iload 1, 20, 0) := by decide +kernel
theorem f132_20 : z_fetch 132 20 = some (.iconst 60, 22, 0) := by decide +kernel
theorem f132_22 : z_fetch 132 22 = some (.if_icmp .eq 0, 25, 44) := by decide +kernel
theorem f132_25 : z_fetch 132 25 = some (.iload 1, 26, 0) := by decide +kernel
theorem f132_26 : z_fetch 132 26 = some (.iconst 61, 28, 0) := by decide +kernel
theorem f132_28 : z_fetch 132 28 = some (.if_icmp .eq 0, 31, 44) := by decide +kernel
theorem f132_31 : z_fetch 132 31 = some (.iload 1, 32, 0) := by decide +kernel
theorem f132_32 : z_fetch 132 32 = some (.iconst 62, 34, 0) := by decide +kernel
theorem f132_34 : z_fetch 132 34 = some (.if_icmp .eq 0, 37, 44) := by decide +kernel
theorem f132_37 : z_fetch 132 37 = some (.aload 0, 38, 0) := by decide +kernel
theorem f132_38 : z_fetch 132 38 = some (.iconst 0, 39, 0) := by decide +kernel
theorem f132_39 : z_fetch 132 39 = some (.iload 2, 40, 0) := by decide +kernel
theorem f132_40 : z_fetch 132 40 = some (.invokevirtual 116, 43, 0) := by decide +kernel
theorem f132_43 : z_fetch 132 43 = some (.ireturn, 44, 1) := by decide +kernel
theorem f132_44 : z_fetch 132 44 = some (.aload 0, 45, 0) := by decide +kernel
theorem f132_45 : z_fetch 132 45 = some (.dup, 46, 0) := by decide +kernel
theorem f132_46 : z_fetch 132 46 = some (.getfield 11, 49, 13) := by decide +kernel
theorem f132_49 : z_fetch 132 49 = some (.iconst 1, 50, 0) := by decide +kernel
theorem f132_50 : z_fetch 132 50 = some (.iadd, 51, 0) := by decide +kernel
theorem f132_51 : z_fetch 132 51 = some (.putfield 11, 54, 13) := by decide +kernel
theorem f132_54 : z_fetch 132 54 = some (.iload 1, 55, 0) := by decide +kernel
theorem f132_55 : z_fetch 132 55 = some (.iconst 61, 57, 0) := by decide +kernel
theorem f132_57 : z_fetch 132 57 = some (.if_icmp .eq 0, 60, 89) := by decide +kernel
theorem f132_60 : z_fetch 132 60 = some (.aload 0, 61, 0) := by decide +kernel
theorem f132_61 : z_fetch 132 61 = some (.getfield 11, 64, 13) := by decide +kernel
theorem f132_64 : z_fetch 132 64 = some (.aload 0, 65, 0) := by decide +kernel
theorem f132_65 : z_fetch 132 65 = some (.getfield 11, 68, 1) := by decide +kernel
theorem f132_68 : z_fetch 132 68 = some (.if_icmp .ge 0, 71, 89) := by decide +kernel
theorem f132_71 : z_fetch 132 71 = some (.aload 0, 72, 0) := by decide +kernel
theorem f132_72 : z_fetch 132 72 = some (.instanceof 11, 75, 0) := by decide +kernel
theorem f132_75 : z_fetch 132 75 = some (.aload 0, 76, 0) := by decide +kernel
theorem f132_76 : z_fetch 132 76 = some (.getfield 11, 79, 13) := by decide +kernel
theorem f132_79 : z_fetch 132 79 = some (.baload, 80, 0) := by decide +kernel
theorem f132_80 : z_fetch 132 80 = some (.iconst 61, 82, 0) := by decide +kernel
theorem f132_82 : z_fetch 132 82 = some (.if_icmp .ne 0, 85, 89) := by decide +kernel
theorem f132_85 : z_fetch 132 85 = some (.iconst 1, 86, 0) := by decide +kernel
theorem f132_86 : z_fetch 132 86 = some (.goto 0, 89, 90) := by decide +kernel
theorem f132_89 : z_fetch 132 89 = some (.iconst 0, 90, 0) := by decide +kernel
theorem f132_90 : z_fetch 132 90 = some (.istore 3, 91, 0) := by decide +kernel
theorem f132_91 : z_fetch 132 91 = some (.iload 3, 92, 0) := by decide +kernel
theorem f132_92 : z_fetch 132 92 = some (.ifCond .eq 0, 95, 105) := by decide +kernel
theorem f132_95 : z_fetch 132 95 = some (.aload 0, 96, 0) := by decide +kernel
theorem f132_96 : z_fetch 132 96 = some (.dup, 97, 0) := by decide +kernel
theorem f132_97 : z_fetch 132 97 = some (.getfield 11, 100, 13) := by decide +kernel
theorem f132_100 : z_fetch 132 100 = some (.iconst 1, 101, 0) := by decide +kernel
theorem f132_101 : z_fetch 132 101 = some (.iadd, 102, 0) := by decide +kernel
theorem f132_102 : z_fetch 132 102 = some (.putfield 11, 105, 13) := by decide +kernel
theorem f132_105 : z_fetch 132 105 = some (.aload 0, 106, 0) := by decide +kernel
theorem f132_106 : z_fetch 132 106 = some (.iload 2, 107, 0) := by decide +kernel
theorem f132_107 : z_fetch 132 107 = some (.invokevirtual 125, 110, 0) := by decide +kernel
theorem f132_110 : z_fetch 132 110 = some (.ifCond .ne 0, 113, 115) := by decide +kernel
theorem f132_113 : z_fetch 132 113 = some (.iconst 0, 114, 0) := by decide +kernel
theorem f132_114 : z_fetch 132 114 = some (.ireturn, 115, 1) := by decide +kernel
theorem f132_115 : z_fetch 132 115 = some (.iload 1, 116, 0) := by decide +kernel
theorem f132_116 : z_fetch 132 116 = some (.iconst 60, 118, 0) := by decide +kernel
theorem f132_118 : z_fetch 132 118 = some (.if_icmp .ne 0, 121, 133) := by decide +kernel
theorem f132_121 : z_fetch 132 121 = some (.iload 3, 122, 0) := by decide +kernel
theorem f132_122 : z_fetch 132 122 = some (.ifCond .eq 0, 125, 129) := by decide +kernel
theorem f132_125 : z_fetch 132 125 = some (.iconst 1, 126, 0) := by decide +kernel
theorem f132_126 : z_fetch 132 126 = some (.goto 0, 129, 152) := by decide +kernel
theorem f132_129 : z_fetch 132 129 = some (.iconst 0, 130, 0) := by decide +kernel
theorem f132_130 : z_fetch 132 130 = some (.goto 0, 133, 152) := by decide +kernel
theorem f132_133 : z_fetch 132 133 = some (.iload 1, 134, 0) := by decide +kernel
theorem f132_134 : z_fetch 132 134 = some (.iconst 61, 136, 0) := by decide +kernel
theorem f132_136 : z_fetch 132 136 = some (.if_icmp .ne 0, 139, 143) := by decide +kernel
theorem f132_139 : z_fetch 132 139 = some (.iconst 2, 140, 0) := by decide +kernel
theorem f132_140 : z_fetch 132 140 = some (.goto 0, 143, 152) := by decide +kernel
theorem f132_143 : z_fetch 132 143 = some (.iload 3, 144, 0) := by decide +kernel
theorem f132_144 : z_fetch 132 144 = some (.ifCond .eq 0, 147, 151) := by decide +kernel
theorem f132_147 : z_fetch 132 147 = some (.iconst 3, 148, 0) := by decide +kernel
theorem f132_148 : z_fetch 132 148 = some (.goto 0, 151, 152) := by decide +kernel
theorem f132_151 : z_fetch 132 151 = some (.iconst 4, 152, 0) := by decide +kernel
theorem f132_152 : z_fetch 132 152 = some (.istore 4, 154, 0) := by decide +kernel
theorem f132_154 : z_fetch 132 154 = some (.aload 0, 155, 0) := by decide +kernel
theorem f132_155 : z_fetch 132 155 = some (.invokevirtual 131, 158, 0) := by decide +kernel
theorem f132_158 : z_fetch 132 158 = some (.ifCond .ne 0, 161, 163) := by decide +kernel
theorem f132_161 : z_fetch 132 161 = some (.iconst 0, 162, 0) := by decide +kernel
theorem f132_162 : z_fetch 132 162 = some (.ireturn, 163, 1) := by decide +kernel
theorem f132_163 : z_fetch 132 163 = some (.aload 0, 164, 0) := by decide +kernel
theorem f132_164 : z_fetch 132 164 = some (.iconst 6, 166, 0) := by decide +kernel
theorem f132_166 : z_fetch 132 166 = some (.iload 4, 168, 0) := by decide +kernel
theorem f132_168 : z_fetch 132 168 = some (.iadd, 169, 0) := by decide +kernel
theorem f132_169 : z_fetch 132 169 = some (.iconst 0, 170, 0) := by decide +kernel
theorem f132_170 : z_fetch 132 170 = some (.invokevirtual 124, 173, 0) := by decide +kernel
theorem f132_173 : z_fetch 132 173 = some (.iconst 1, 174, 0) := by decide +kernel
theorem f132_174 : z_fetch 132 174 = some (.ireturn, 175, 1) := by decide +kernel
theorem f133_0 : z_fetch 133 0 = some (.iconst 1, 1, 0) := by decide +kernel
theorem f133_1 : z_fetch 133 1 = some (.istore 1, 2, 0) := by decide +kernel
theorem f133_2 : z_fetch 133 2 = some (.iload 1, 3, 0) := by decide +kernel
theorem f133_3 : z_fetch 133 3 = some (.ifCond .eq 0, 6, 75) := by decide +kernel
theorem f133_6 : z_fetch 133 6 = some (.iconst 0, 7, 0) := by decide +kernel
theorem f133_7 : z_fetch 133 7 = some (.istore 1, 8, 0) := by decide +kernel
theorem f133_8 : z_fetch 133 8 = some (.aload 0, 9, 0) := by decide +kernel
theorem f133_9 : z_fetch 133 9 = some (.invokevirtual 117, 12, 0) := by decide +kernel
theorem f133_12 : z_fetch 133 12 = some (.istore 2, 13, 0) := by decide +kernel
theorem f133_13 : z_fetch 133 13 = some (.aload 0, 14, 0) := by decide +kernel
theorem f133_14 : z_fetch 133 14 = some (.goto_w 7237492, 17, 0) := by decide +kernel
theorem f133_17 : z_fetch 133 17 = some (.invokevirtual 120, 20, 0) := by decide +kernel
theorem f133_20 : z_fetch 133 20 = some (.ifCond .eq 0, 23, 43) := by decide +kernel
theorem f133_23 : z_fetch 133 23 = some (.aload 0, 24, 0) := by decide +kernel
theorem f133_24 : z_fetch 133 24 = some (.iconst 11, 26, 0) := by decide +kernel
theorem f133_26 : z_fetch 133 26 = some (.invokevirtual 126, 29, 0) := by decide +kernel
theorem f133_29 : z_fetch 133 29 = some (.ifCond .ne 0, 32, 34) := by decide +kernel
theorem f133_32 : z_fetch 133 32 = some (.iconst 0, 33, 0) := by decide +kernel
theorem f133_33 : z_fetch 133 33 = some (.ireturn, 34, 1) := by decide +kernel
theorem f133_34 : z_fetch 133 34 = some (.aload 0, 35, 0) := by decide +kernel
theorem f133_35 : z_fetch 133 35 = some (.invokevirtual 121, 38, 0) := by decide +kernel
theorem f133_38 : z_fetch 133 38 = some (.iconst 1, 39, 0) := by decide +kernel
theorem f133_39 : z_fetch 133 39 = some (.istore 1, 40, 0) := by decide +kernel
theorem f133_40 : z_fetch 133 40 = some (.goto 0, 43, 72) := by decide +kernel
theorem f133_43 : z_fetch 133 43 = some (.iload 2, 44, 0) := by decide +kernel
theorem f133_44 : z_fetch 133 44 = some (.iconst 91, 46, 0) := by decide +kernel
theorem f133_46 : z_fetch 133 46 = some (.if_icmp .ne 0, 49, 72) := by decide +kernel
theorem f133_49 : z_fetch 133 49 = some (.aload 0, 50, 0) := by decide +kernel
theorem f133_50 : z_fetch 133 50 = some (.iconst 91, 52, 0) := by decide +kernel
theorem f133_52 : z_fetch 133 52 = some (.invokevirtual 126, 55, 0) := by decide +kernel
theorem f133_55 : z_fetch 133 55 = some (.ifCond .ne 0, 58, 60) := by decide +kernel
theorem f133_58 : z_fetch 133 58 = some (.iconst 0, 59, 0) := by decide +kernel
theorem f133_59 : z_fetch 133 59 = some (.ireturn, 60, 1) := by decide +kernel
theorem f133_60 : z_fetch 133 60 = some (.aload 0, 61, 0) := by decide +kernel
theorem f133_61 : z_fetch 133 61 = some (.dup, 62, 0) := by decide +kernel
theorem f133_62 : z_fetch 133 62 = some (.getfield 11, 65, 13) := by decide +kernel
theorem f133_65 : z_fetch 133 65 = some (.iconst 1, 66, 0) := by decide +kernel
theorem f133_66 : z_fetch 133 66 = some (.iadd, 67, 0) := by decide +kernel
theorem f133_67 : z_fetch 133 67 = some (.putfield 11, 70, 13) := by decide +kernel
theorem f133_70 : z_fetch 133 70 = some (.iconst 1, 71, 0) := by decide +kernel
theorem f133_71 : z_fetch 133 71 = some (.istore 1, 72, 0) := by decide +kernel
theorem f133_72 : z_fetch 133 72 = some (.goto 0, 75, 2) := by decide +kernel
theorem f133_75 : z_fetch 133 75 = some (.aload 0, 76, 0) := by decide +kernel
theorem f133_76 : z_fetch 133 76 = some (.invokevirtual 132, 79, 0) := by decide +kernel
theorem f133_79 : z_fetch 133 79 = some (.ireturn, 80, 1) := by decide +kernel
theorem f134_0 : z_fetch 134 0 = some (.iconst 0, 1, 0) := by decide +kernel
theorem f134_1 : z_fetch 134 1 = some (.istore 1, 2, 0) := by decide +kernel
theorem f134_2 : z_fetch 134 2 = some (.iload 1, 3, 0) := by decide +kernel
theorem f134_3 : z_fetch 134 3 = some (.aload 0, 4, 0) := by decide +kernel
theorem f134_4 : z_fetch 134 4 = some (.getfield 11, 7, 21) := by decide +kernel
theorem f134_7 : z_fetch 134 7 = some (.if_icmp .ge 0, 10, 29) := by decide +kernel
theorem f134_10 : z_fetch 134 10 = some (.aload 0, 11, 0) := by decide +kernel
theorem f134_11 : z_fetch 134 11 = some (.instanceof 11, 14, 20) := by decide +kernel
theorem f134_14 : z_fetch 134 14 = some (.iload 1, 15, 0) := by decide +kernel
theorem f134_15 : z_fetch 134 15 = some (.iaload, 16, 0) := by decide +kernel
theorem f134_16 : z_fetch 134 16 = some (.iconst 91, 18, 0) := by decide +kernel
theorem f134_18 : z_fetch 134 18 = some (.if_icmp .ne 0, 21, 23) := by decide +kernel
theorem f134_21 : z_fetch 134 21 = some (.iconst 1, 22, 0) := by decide +kernel
theorem f134_22 : z_fetch 134 22 = some (.ireturn, 23, 1) := by decide +kernel
theorem f134_23 : z_fetch 134 23 = some (.iinc 1 1, 26, 0) := by decide +kernel
theorem f134_26 : z_fetch 134 26 = some (.goto 0, 29, 2) := by decide +kernel
theorem f134_29 : z_fetch 134 29 = some (.iconst 0, 30, 0) := by decide +kernel
theorem f134_30 : z_fetch 134 30 = some (.ireturn, 31, 1) := by decide +kernel
theorem f135_0 : z_fetch 135 0 = some (.aload 0, 1, 0) := by decide +kernel
theorem f135_1 : z_fetch 135 1 = some (.iconst 3, 2, 0) := by decide +kernel
theorem f135_2 : z_fetch 135 2 = some (.invokevirtual 128, 5, 0) := by decide +kernel
theorem f135_5 : z_fetch 135 5 = some (.aload 0, 6, 0) := by decide +kernel
theorem f135_6 : z_fetch 135 6 = some (.invokevirtual 117, 9, 0) := by decide +kernel
theorem f135_9 : z_fetch 135 9 = some (.iconst 93, 11, 0) := by decide +kernel
theorem f135_11 : z_fetch 135 11 = some (.if_icmp .ne 0, 14, 64) := by decide +kernel
theorem f135_14 : z_fetch 135 14 = some (.aload 0, 15, 0) := by decide +kernel
theorem f135_15 : z_fetch 135 15 = some (.invokevirtual 134, 18, 0) := by decide +kernel
theorem f135_18 : z_fetch 135 18 = some (.ifCond .eq 0, 21, 64) := by decide +kernel
theorem f135_21 : z_fetch 135 21 = some (.aload 0, 22, 0) := by decide +kernel
theorem f135_22 : z_fetch 135 22 = some (.iconst 1, 23, 0) := by decide +kernel
theorem f135_23 : z_fetch 135 23 = some (.invokevirtual 128, 26, 0) := by decide +kernel
theorem f135_26 : z_fetch 135 26 = some (.aload 0, 27, 0) := by decide +kernel
theorem f135_27 : z_fetch 135 27 = some (.dup, 28, 0) := by decide +kernel
theorem f135_28 : z_fetch 135 28 = some (.getfield 11, 31, 21) := by decide +kernel
theorem f135_31 : z_fetch 135 31 = some (.iconst 1, 32, 0) := by decide +kernel
theorem f135_32 : z_fetch 135 32 = some (.isub, 33, 0) := by decide +kernel
theorem f135_33 : z_fetch 135 33 = some (.putfield 11, 36, 21) := by decide +kernel
theorem f135_36 : z_fetch 135 36 = some (.aload 0, 37, 0) := by decide +kernel
theorem f135_37 : z_fetch 135 37 = some (.dup, 38, 0) := by decide +kernel
theorem f135_38 : z_fetch 135 38 = some (.getfield 11, 41, 18) := by decide +kernel
theorem f135_41 : z_fetch 135 41 = some (.iconst 1, 42, 0) := by decide +kernel
theorem f135_42 : z_fetch 135 42 = some (.isub, 43, 0) := by decide +kernel
theorem f135_43 : z_fetch 135 43 = some (.putfield 11, 46, 18) := by decide +kernel
theorem f135_46 : z_fetch 135 46 = some (.aload 0, 47, 0) := by decide +kernel
theorem f135_47 : z_fetch 135 47 = some (.dup, 48, 0) := by decide +kernel
theorem f135_48 : z_fetch 135 48 = some (.getfield 11, 51, 13) := by decide +kernel
theorem f135_51 : z_fetch 135 51 = some (.iconst 1, 52, 0) := by decide +kernel
theorem f135_52 : z_fetch 135 52 = some (.iadd, 53, 0) := by decide +kernel
theorem f135_53 : z_fetch 135 53 = some (.putfield 11, 56, 13) := by decide +kernel
theorem f135_56 : z_fetch 135 56 = some (.aload 0, 57, 0) := by decide +kernel
theorem f135_57 : z_fetch 135 57 = some (.iconst 3, 58, 0) := by decide +kernel
theorem f135_58 : z_fetch 135 58 = some (.invokevirtual 128, 61, 0) := by decide +kernel
theorem f135_61 : z_fetch 135 61 = some (.goto 0, 64, 5) := by decide +kernel
theorem f135_64 : z_fetch 135 64 = some (.return_, 65, 0) := by decide +kernel
theorem f136_0 : z_fetch 136 0 = some (.aload 0, 1, 0) := by decide +kernel
theorem f136_1 : z_fetch 136 1 = some (.iconst 0, 2, 0) := by decide +kernel
theorem f136_2 : z_fetch 136 2 = some (.putfield 11, 5, 21) := by decide +kernel
theorem f136_5 : z_fetch 136 5 = some (.aload 0, 6, 0) := by decide +kernel
theorem f136_6 : z_fetch 136 6 = some (.iconst 0, 7, 0) := by decide +kernel
theorem f136_7 : z_fetch 136 7 = some (.putfield 11, 10, 18) := by decide +kernel
theorem f136_10 : z_fetch 136 10 = some (.iconst 1, 11, 0) := by decide +kernel
theorem f136_11 : z_fetch 136 11 = some (.istore 1, 12, 0) := by decide +kernel
theorem f136_12 : z_fetch 136 12 = some (.iload 1, 13, 0) := by decide +kernel
theorem f136_13 : z_fetch 136 13 = some (.ifCond .eq 0, 16, 112) := by decide +kernel
theorem f136_16 : z_fetch 136 16 = some (.aload 0, 17, 0) := by decide +kernel
theorem f136_17 : z_fetch 136 17 = some (.invokevirtual 133, 20, 0) := by decide +kernel
theorem f136_20 : z_fetch 136 20 = some (.ifCond .ne 0, 23, 25) := by decide +kernel
theorem f136_23 : z_fetch 136 23 = some (.iconst 0, 24, 0) := by decide +kernel
theorem f136_24 : z_fetch 136 24 = some (.ireturn, 25, 1) := by decide +kernel
theorem f136_25 : z_fetch 136 25 = some (.aload 0, 26, 0) := by decide +kernel
theorem f136_26 : z_fetch 136 26 = some (.invokevirtual 135, 29, 0) := by decide +kernel
theorem f136_29 : z_fetch 136 29 = some (.aload 0, 30, 0) := by decide +kernel
theorem f136_30 : z_fetch 136 30 = some (.goto_w 6385252, 33, 0) := by decide +kernel
theorem f136_33 : z_fetch 136 33 = some (.invokevirtual 120, 36, 0) := by decide +kernel
theorem f136_36 : z_fetch 136 36 = some (.ifCond .ne 0, 39, 49) := by decide +kernel
theorem f136_39 : z_fetch 136 39 = some (.aload 0, 40, 0) := by decide +kernel
theorem f136_40 : z_fetch 136 40 = some (.goto_w 28530, 43, 0) := by decide +kernel
theorem f136_43 : z_fetch 136 43 = some (.invokevirtual 120, 46, 0) := by decide +kernel
theorem f136_46 : z_fetch 136 46 = some (.ifCond .eq 0, 49, 53) := by decide +kernel
theorem f136_49 : z_fetch 136 49 = some (.iconst 1, 50, 0) := by decide +kernel
theorem f136_50 : z_fetch 136 50 = some (.goto 0, 53, 54) := by decide +kernel
theorem f136_53 : z_fetch 136 53 = some (.iconst 0, 54, 0) := by decide +kernel
theorem f136_54 : z_fetch 136 54 = some (.istore 1, 55, 0) := by decide +kernel
theorem f136_55 : z_fetch 136 55 = some (.iload 1, 56, 0) := by decide +kernel
theorem f136_56 : z_fetch 136 56 = some (.ifCond .eq 0, 59, 12) := by decide +kernel
theorem f136_59 : z_fetch 136 59 = some (.aload 0, 60, 0) := by decide +kernel
theorem f136_60 : z_fetch 136 60 = some (.goto_w 6385252, 63, 0) := by decide +kernel
theorem f136_63 : z_fetch 136 63 = some (.invokevirtual 120, 66, 0) := by decide +kernel
theorem f136_66 : z_fetch 136 66 = some (.ifCond .eq 0, 69, 74) := by decide +kernel
theorem f136_69 : z_fetch 136 69 = some (.iconst 12, 71, 0) := by decide +kernel
theorem f136_71 : z_fetch 136 71 = some (.goto 0, 74, 76) := by decide +kernel
theorem f136_74 : z_fetch 136 74 = some (.iconst 13, 76, 0) := by decide +kernel
theorem f136_76 : z_fetch 136 76 = some (.istore 2, 77, 0) := by decide +kernel
theorem f136_77 : z_fetch 136 77 = some (.aload 0, 78, 0) := by decide +kernel
theorem f136_78 : z_fetch 136 78 = some (.invokevirtual 121, 81, 0) := by decide +kernel
theorem f136_81 : z_fetch 136 81 = some (.aload 0, 82, 0) := by decide +kernel
theorem f136_82 : z_fetch 136 82 = some (.iload 2, 83, 0) := by decide +kernel
theorem f136_83 : z_fetch 136 83 = some (.invokestatic 127, 86, 0) := by decide +kernel
theorem f136_86 : z_fetch 136 86 = some (.invokevirtual 128, 89, 0) := by decide +kernel
theorem f136_89 : z_fetch 136 89 = some (.aload 0, 90, 0) := by decide +kernel
theorem f136_90 : z_fetch 136 90 = some (.instanceof 11, 93, 20) := by decide +kernel
theorem f136_93 : z_fetch 136 93 = some (.aload 0, 94, 0) := by decide +kernel
theorem f136_94 : z_fetch 136 94 = some (.getfield 11, 97, 21) := by decide +kernel
theorem f136_97 : z_fetch 136 97 = some (.iload 2, 98, 0) := by decide +kernel
theorem f136_98 : z_fetch 136 98 = some (.iastore, 99, 0) := by decide +kernel
theorem f136_99 : z_fetch 136 99 = some (.aload 0, 100, 0) := by decide +kernel
theorem f136_100 : z_fetch 136 100 = some (.dup, 101, 0) := by decide +kernel
theorem f136_101 : z_fetch 136 101 = some (.getfield 11, 104, 21) := by decide +kernel
theorem f136_104 : z_fetch 136 104 = some (.iconst 1, 105, 0) := by decide +kernel
theorem f136_105 : z_fetch 136 105 = some (.iadd, 106, 0) := by decide +kernel
theorem f136_106 : z_fetch 136 106 = some (.putfield 11, 109, 21) := by decide +kernel
theorem f136_109 : z_fetch 136 109 = some (.goto 0, 112, 12) := by decide +kernel
theorem f136_112 : z_fetch 136 112 = some (.aload 0, 113, 0) := by decide +kernel
theorem f136_113 : z_fetch 136 113 = some (.invokevirtual 134, 116, 0) := by decide +kernel
theorem f136_116 : z_fetch 136 116 = some (.ifCond .eq 0, 119, 134) := by decide +kernel
theorem f136_119 : z_fetch 136 119 = some (.aload 0, 120, 0) := by decide +kernel
theorem f136_120 : z_fetch 136 120 = some (.invokevirtual 117, 123, 0) := by decide +kernel
theorem f136_123 : z_fetch 136 123 = some (.pop, 124, 0) := by decide +kernel
theorem f136_124 : z_fetch 136 124 = some (.aload 0, 125, 0) := by decide +kernel
theorem f136_125 : z_fetch 136 125 = some (.iconst 0, 126, 0) := by decide +kernel
theorem f136_126 : z_fetch 136 126 = some (.aload 0, 127, 0) := by decide +kernel
theorem f136_127 : z_fetch 136 127 = some (.getfield 11, 130, 13) := by decide +kernel
theorem f136_130 : z_fetch 136 130 = some (.invokevirtual 116, 133, 0) := by decide +kernel
theorem f136_133 : z_fetch 136 133 = some (.ireturn, 134, 1) := by decide +kernel
theorem f136_134 : z_fetch 136 134 = some (.aload 0, 135, 0) := by decide +kernel
theorem f136_135 : z_fetch 136 135 = some (.iconst 1, 136, 0) := by decide +kernel
theorem f136_136 : z_fetch 136 136 = some (.invokevirtual 128, 139, 0) := by decide +kernel
theorem f136_139 : z_fetch 136 139 = some (.iconst 1, 140, 0) := by decide +kernel
theorem f136_140 : z_fetch 136 140 = some (.ireturn, 141, 1) := by decide +kernel
theorem f137_0 : z_fetch 137 0 = some (.aload 0, 1, 0) := by decide +kernel
theorem f137_1 : z_fetch 137 1 = some (.invokevirtual 121, 4, 0) := by decide +kernel
theorem f137_4 : z_fetch 137 4 = some (.iconst 36, 6, 0) := by decide +kernel
theorem f137_6 : z_fetch 137 6 = some (.aload 0, 7, 0) := by decide +kernel
theorem f137_7 : z_fetch 137 7 = some (.getfield 11, 10, 16) := by decide +kernel
theorem f137_10 : z_fetch 137 10 = some (.imul, 11, 0) := by decide +kernel
theorem f137_11 : z_fetch 137 11 = some (.iconst 3, 12, 0) := by decide +kernel
theorem f137_12 : z_fetch 137 12 = some (.aload 0, 13, 0) := by decide +kernel
theorem f137_13 : z_fetch 137 13 = some (.instanceof 11, 16, 6) := by decide +kernel
theorem f137_16 : z_fetch 137 16 = some (.aload 0, 17, 0) := by decide +kernel
theorem f137_17 : z_fetch 137 17 = some (.getfield 11, 20, 16) := by decide +kernel
theorem f137_20 : z_fetch 137 20 = some (.iaload, 21, 0) := by decide +kernel
theorem f137_21 : z_fetch 137 21 = some (.imul, 22, 0) := by decide +kernel
theorem f137_22 : z_fetch 137 22 = some (.iadd, 23, 0) := by decide +kernel
theorem f137_23 : z_fetch 137 23 = some (.istore 2, 24, 0) := by decide +kernel
theorem f137_24 : z_fetch 137 24 = some (.aload 0, 25, 0) := by decide +kernel
theorem f137_25 : z_fetch 137 25 = some (.instanceof 11, 28, 5) := by decide +kernel
theorem f137_28 : z_fetch 137 28 = some (.iload 2, 29, 0) := by decide +kernel
theorem f137_29 : z_fetch 137 29 = some (.iload 1, 30, 0) := by decide +kernel
theorem f137_30 : z_fetch 137 30 = some (.iastore, 31, 0) := by decide +kernel
theorem f137_31 : z_fetch 137 31 = some (.aload 0, 32, 0) := by decide +kernel
theorem f137_32 : z_fetch 137 32 = some (.instanceof 11, 35, 5) := by decide +kernel
theorem f137_35 : z_fetch 137 35 = some (.iload 2, 36, 0) := by decide +kernel
theorem f137_36 : z_fetch 137 36 = some (.iconst 1, 37, 0) := by decide +kernel
theorem f137_37 : z_fetch 137 37 = some (.iadd, 38, 0) := by decide +kernel
theorem f137_38 : z_fetch 137 38 = some (.aload 0, 39, 0) := by decide +kernel
theorem f137_39 : z_fetch 137 39 = some (.instanceof 11, 42, 4) := by decide +kernel
theorem f137_42 : z_fetch 137 42 = some (.aload 0, 43, 0) := by decide +kernel
theorem f137_43 : z_fetch 137 43 = some (.getfield 11, 46, 16) := by decide +kernel
theorem f137_46 : z_fetch 137 46 = some (.iaload, 47, 0) := by decide +kernel
theorem f137_47 : z_fetch 137 47 = some (.iastore, 48, 0) := by decide +kernel
theorem f137_48 : z_fetch 137 48 = some (.aload 0, 49, 0) := by decide +kernel
theorem f137_49 : z_fetch 137 49 = some (.invokevirtual 136, 52, 0) := by decide +kernel
theorem f137_52 : z_fetch 137 52 = some (.ifCond .ne 0, 55, 57) := by decide +kernel
theorem f137_55 : z_fetch 137 55 = some (.iconst 0, 56, 0) := by decide +kernel
theorem f137_56 : z_fetch 137 56 = some (.ireturn, 57, 1) := by decide +kernel
theorem f137_57 : z_fetch 137 57 = some (.aload 0, 58, 0) := by decide +kernel
theorem f137_58 : z_fetch 137 58 = some (.instanceof 11, 61, 5) := by decide +kernel
theorem f137_61 : z_fetch 137 61 = some (.iload 2, 62, 0) := by decide +kernel
theorem f137_62 : z_fetch 137 62 = some (.iconst 2, 63, 0) := by decide +kernel
theorem f137_63 : z_fetch 137 63 = some (.iadd, 64, 0) := by decide +kernel
theorem f137_64 : z_fetch 137 64 = some (.aload 0, 65, 0) := by decide +kernel
theorem f137_65 : z_fetch 137 65 = some (.instanceof 11, 68, 4) := by decide +kernel
theorem f137_68 : z_fetch 137 68 = some (.aload 0, 69, 0) := by decide +kernel
theorem f137_69 : z_fetch 137 69 = some (.getfield 11, 72, 16) := by decide +kernel
theorem f137_72 : z_fetch 137 72 = some (.iaload, 73, 0) := by decide +kernel
theorem f137_73 : z_fetch 137 73 = some (.iastore, 74, 0) := by decide +kernel
theorem f137_74 : z_fetch 137 74 = some (.aload 0, 75, 0) := by decide +kernel
theorem f137_75 : z_fetch 137 75 = some (.instanceof 11, 78, 6) := by decide +kernel
theorem f137_78 : z_fetch 137 78 = some (.aload 0, 79, 0) := by decide +kernel
theorem f137_79 : z_fetch 137 79 = some (.getfield 11, 82, 16) := by decide +kernel
theorem f137_82 : z_fetch 137 82 = some (.dup2, 83, 0) := by decide +kernel
theorem f137_83 : z_fetch 137 83 = some (.iaload, 84, 0) := by decide +kernel
theorem f137_84 : z_fetch 137 84 = some (.iconst 1, 85, 0) := by decide +kernel
theorem f137_85 : z_fetch 137 85 = some (.iadd, 86, 0) := by decide +kernel
theorem f137_86 : z_fetch 137 86 = some (.iastore, 87, 0) := by decide +kernel
theorem f137_87 : z_fetch 137 87 = some (.iconst 1, 88, 0) := by decide +kernel
theorem f137_88 : z_fetch 137 88 = some (.ireturn, 89, 1) := by decide +kernel
theorem f138_0 : z_fetch 138 0 = some (.aload 0, 1, 0) := by decide +kernel
theorem f138_1 : z_fetch 138 1 = some (.getfield 11, 4, 7) := by decide +kernel
theorem f138_4 : z_fetch 138 4 = some (.ifCond .le 0, 7, 14) := by decide +kernel
theorem f138_7 : z_fetch 138 7 = some (.aload 0, 8, 0) := by decide +kernel
theorem f138_8 : z_fetch 138 8 = some (.iconst 4, 9, 0) := by decide +kernel
theorem f138_9 : z_fetch 138 9 = some (.iload 1, 10, 0) := by decide +kernel
theorem f138_10 : z_fetch 138 10 = some (.invokevirtual 116, 13, 0) := by decide +kernel
theorem f138_13 : z_fetch 138 13 = some (.ireturn, 14, 1) := by decide +kernel
theorem f138_14 : z_fetch 138 14 = some (.aload 0, 15, 0) := by decide +kernel
theorem f138_15 : z_fetch 138 15 = some (.invokevirtual 121, 18, 0) := by decide +kernel
theorem f138_18 : z_fetch 138 18 = some (.aload 0, 19, 0) := by decide +kernel
theorem f138_19 : z_fetch 138 19 = some (.iconst 2, 20, 0) := by decide +kernel
theorem f138_20 : z_fetch 138 20 = some (.iconst 10, 22, 0) := by decide +kernel
theorem f138_22 : z_fetch 138 22 = some (.invokevirtual 122, 25, 0) := by decide +kernel
theorem f138_25 : z_fetch 138 25 = some (.ifCond .ne 0, 28, 30) := by decide +kernel
theorem f138_28 : z_fetch 138 28 = some (.iconst 0, 29, 0) := by decide +kernel
theorem f138_29 : z_fetch 138 29 = some (.ireturn, 30, 1) := by decide +kernel
theorem f138_30 : z_fetch 138 30 = some (.aload 0, 31, 0) := by decide +kernel
theorem f138_31 : z_fetch 138 31 = some (.aload 0, 32, 0) := by decide +kernel
theorem f138_32 : z_fetch 138 32 = some (.getfield 11, 35, 15) := by decide +kernel
theorem f138_35 : z_fetch 138 35 = some (.putfield 11, 38, 7) := by decide +kernel
theorem f138_38 : z_fetch 138 38 = some (.iconst 1, 39, 0) := by decide +kernel
theorem f138_39 : z_fetch 138 39 = some (.ireturn, 40, 1) := by decide +kernel
theorem f139_0 : z_fetch 139 0 = some (.aload 0, 1, 0) := by decide +kernel
theorem f139_1 : z_fetch 139 1 = some (.getfield 11, 4, 8) := by decide +kernel
theorem f139_4 : z_fetch 139 4 = some (.ifCond .lt 0, 7, 14) := by decide +kernel
theorem f139_7 : z_fetch 139 7 = some (.aload 0, 8, 0) := by decide +kernel
theorem f139_8 : z_fetch 139 8 = some (.iconst 4, 9, 0) := by decide +kernel
theorem f139_9 : z_fetch 139 9 = some (.iload 1, 10, 0) := by decide +kernel
theorem f139_10 : z_fetch 139 10 = some (.invokevirtual 116, 13, 0) := by decide +kernel
theorem f139_13 : z_fetch 139 13 = some (.ireturn, 14, 1) := by decide +kernel
theorem f139_14 : z_fetch 139 14 = some (.aload 0, 15, 0) := by decide +kernel
theorem f139_15 : z_fetch 139 15 = some (.invokevirtual 121, 18, 0) := by decide +kernel
theorem f139_18 : z_fetch 139 18 = some (.aload 0, 19, 0) := by decide +kernel
theorem f139_19 : z_fetch 139 19 = some (.iconst 1, 20, 0) := by decide +kernel
theorem f139_20 : z_fetch 139 20 = some (.iconst 999, 23, 0) := by decide +kernel
theorem f139_23 : z_fetch 139 23 = some (.invokevirtual 122, 26, 0) := by decide +kernel
theorem f139_26 : z_fetch 139 26 = some (.ifCond .ne 0, 29, 31) := by decide +kernel
theorem f139_29 : z_fetch 139 29 = some (.iconst 0, 30, 0) := by decide +kernel
theorem f139_30 : z_fetch 139 30 = some (.ireturn, 31, 1) := by decide +kernel
theorem f139_31 : z_fetch 139 31 = some (.aload 0, 32, 0) := by decide +kernel
theorem f139_32 : z_fetch 139 32 = some (.aload 0, 33, 0) := by decide +kernel
theorem f139_33 : z_fetch 139 33 = some (.getfield 11, 36, 15) := by decide +kernel
theorem f139_36 : z_fetch 139 36 = some (.putfield 11, 39, 8) := by decide +kernel
theorem f139_39 : z_fetch 139 39 = some (.iconst 1, 40, 0) := by decide +kernel
theorem f139_40 : z_fetch 139 40 = some (.ireturn, 41, 1) := by decide +kernel
theorem f140_0 : z_fetch 140 0 = some (.aload 0, 1, 0) := by decide +kernel
theorem f140_1 : z_fetch 140 1 = some (.getfield 11, 4, 9) := by decide +kernel
theorem f140_4 : z_fetch 140 4 = some (.iconst 8, 6, 0) := by decide +kernel
theorem f140_6 : z_fetch 140 6 = some (.if_icmp .ne 0, 9, 16) := by decide +kernel
theorem f140_9 : z_fetch 140 9 = some (.aload 0, 10, 0) := by decide +kernel
theorem f140_10 : z_fetch 140 10 = some (.iconst 4, 11, 0) := by decide +kernel
theorem f140_11 : z_fetch 140 11 = some (.iload 1, 12, 0) := by decide +kernel
theorem f140_12 : z_fetch 140 12 = some (.invokevirtual 116, 15, 0) := by decide +kernel
theorem f140_15 : z_fetch 140 15 = some (.ireturn, 16, 1) := by decide +kernel
theorem f140_16 : z_fetch 140 16 = some (.aload 0, 17, 0) := by decide +kernel
theorem f140_17 : z_fetch 140 17 = some (.invokevirtual 121, 20, 0) := by decide +kernel
theorem f140_20 : z_fetch 140 20 = some (.iconst 3, 21, 0) := by decide +kernel
theorem f140_21 : z_fetch 140 21 = some (.aload 0, 22, 0) := by decide +kernel
theorem f140_22 : z_fetch 140 22 = some (.getfield 11, 25, 9) := by decide +kernel
theorem f140_25 : z_fetch 140 25 = some (.imul, 26, 0) := by decide +kernel
theorem f140_26 : z_fetch 140 26 = some (.istore 2, 27, 0) := by decide +kernel
theorem f140_27 : z_fetch 140 27 = some (.aload 0, 28, 0) := by decide +kernel
theorem f140_28 : z_fetch 140 28 = some (.iconst 1, 29, 0) := by decide +kernel
theorem f140_29 : z_fetch 140 29 = some (.iconst 99, 31, 0) := by decide +kernel
theorem f140_31 : z_fetch 140 31 = some (.invokevirtual 122, 34, 0) := by decide +kernel
theorem f140_34 : z_fetch 140 34 = some (.ifCond .ne 0, 37, 39) := by decide +kernel
theorem f140_37 : z_fetch 140 37 = some (.iconst 0, 38, 0) := by decide +kernel
theorem f140_38 : z_fetch 140 38 = some (.ireturn, 39, 1) := by decide +kernel
theorem f140_39 : z_fetch 140 39 = some (.aload 0, 40, 0) := by decide +kernel
theorem f140_40 : z_fetch 140 40 = some (.instanceof 11, 43, 11) := by decide +kernel
theorem f140_43 : z_fetch 140 43 = some (.iload 2, 44, 0) := by decide +kernel
theorem f140_44 : z_fetch 140 44 = some (.aload 0, 45, 0) := by decide +kernel
theorem f140_45 : z_fetch 140 45 = some (.getfield 11, 48, 15) := by decide +kernel
theorem f140_48 : z_fetch 140 48 = some (.iastore, 49, 0) := by decide +kernel
theorem f140_49 : z_fetch 140 49 = some (.aload 0, 50, 0) := by decide +kernel
theorem f140_50 : z_fetch 140 50 = some (.iconst 0, 51, 0) := by decide +kernel
theorem f140_51 : z_fetch 140 51 = some (.aload 0, 52, 0) := by decide +kernel
theorem f140_52 : z_fetch 140 52 = some (.getfield 11, 55, 7) := by decide +kernel
theorem f140_55 : z_fetch 140 55 = some (.iconst 1, 56, 0) := by decide +kernel
theorem f140_56 : z_fetch 140 56 = some (.isub, 57, 0) := by decide +kernel
theorem f140_57 : z_fetch 140 57 = some (.invokevirtual 122, 60, 0) := by decide +kernel
theorem f140_60 : z_fetch 140 60 = some (.ifCond .ne 0, 63, 65) := by decide +kernel
theorem f140_63 : z_fetch 140 63 = some (.iconst 0, 64, 0) := by decide +kernel
theorem f140_64 : z_fetch 140 64 = some (.ireturn, 65, 1) := by decide +kernel
theorem f140_65 : z_fetch 140 65 = some (.aload 0, 66, 0) := by decide +kernel
theorem f140_66 : z_fetch 140 66 = some (.instanceof 11, 69, 11) := by decide +kernel
theorem f140_69 : z_fetch 140 69 = some (.iload 2, 70, 0) := by decide +kernel
theorem f140_70 : z_fetch 140 70 = some (.iconst 1, 71, 0) := by decide +kernel
theorem f140_71 : z_fetch 140 71 = some (.iadd, 72, 0) := by decide +kernel
theorem f140_72 : z_fetch 140 72 = some (.aload 0, 73, 0) := by decide +kernel
theorem f140_73 : z_fetch 140 73 = some (.getfield 11, 76, 15) := by decide +kernel
theorem f140_76 : z_fetch 140 76 = some (.iastore, 77, 0) := by decide +kernel
theorem f140_77 : z_fetch 140 77 = some (.aload 0, 78, 0) := by decide +kernel
theorem f140_78 : z_fetch 140 78 = some (.iconst 0, 79, 0) := by decide +kernel
theorem f140_79 : z_fetch 140 79 = some (.iconst 999, 82, 0) := by decide +kernel
theorem f140_82 : z_fetch 140 82 = some (.invokevirtual 122, 85, 0) := by decide +kernel
theorem f140_85 : z_fetch 140 85 = some (.ifCond .ne 0, 88, 90) := by decide +kernel
theorem f140_88 : z_fetch 140 88 = some (.iconst 0, 89, 0) := by decide +kernel
theorem f140_89 : z_fetch 140 89 = some (.ireturn, 90, 1) := by decide +kernel
theorem f140_90 : z_fetch 140 90 = some (.aload 0, 91, 0) := by decide +kernel
theorem f140_91 : z_fetch 140 91 = some (.instanceof 11, 94, 11) := by decide +kernel
theorem f140_94 : z_fetch 140 94 = some (.iload 2, 95, 0) := by decide +kernel
theorem f140_95 : z_fetch 140 95 = some (.iconst 2, 96, 0) := by decide +kernel
theorem f140_96 : z_fetch 140 96 = some (.iadd, 97, 0) := by decide +kernel
theorem f140_97 : z_fetch 140 97 = some (.aload 0, 98, 0) := by decide +kernel
theorem f140_98 : z_fetch 140 98 = some (.getfield 11, 101, 15) := by decide +kernel
theorem f140_101 : z_fetch 140 101 = some (.iastore, 102, 0) := by decide +kernel
theorem f140_102 : z_fetch 140 102 = some (.aload 0, 103, 0) := by decide +kernel
theorem f140_103 : z_fetch 140 103 = some (.dup, 104, 0) := by decide +kernel
theorem f140_104 : z_fetch 140 104 = some (.getfield 11, 107, 9) := by decide +kernel
theorem f140_107 : z_fetch 140 107 = some (.iconst 1, 108, 0) := by decide +kernel
theorem f140_108 : z_fetch 140 108 = some (.iadd, 109, 0) := by decide +kernel
theorem f140_109 : z_fetch 140 109 = some (.putfield 11, 112, 9) := by decide +kernel
theorem f140_112 : z_fetch 140 112 = some (.iconst 1, 113, 0) := by decide +kernel
theorem f140_113 : z_fetch 140 113 = some (.ireturn, 114, 1) := by decide +kernel
theorem f141_0 : z_fetch 141 0 = some (.aload 0, 1, 0) := by decide +kernel
theorem f141_1 : z_fetch 141 1 = some (.getfield 11, 4, 10) := by decide +kernel
theorem f141_4 : z_fetch 141 4 = some (.iconst 24, 6, 0) := by decide +kernel
theorem f141_6 : z_fetch 141 6 = some (.if_icmp .ne 0, 9, 16) := by decide +kernel
theorem f141_9 : z_fetch 141 9 = some (.aload 0, 10, 0) := by decide +kernel
theorem f141_10 : z_fetch 141 10 = some (.iconst 4, 11, 0) := by decide +kernel
theorem f141_11 : z_fetch 141 11 = some (.iload 1, 12, 0) := by decide +kernel
theorem f141_12 : z_fetch 141 12 = some (.invokevirtual 116, 15, 0) := by decide +kernel
theorem f141_15 : z_fetch 141 15 = some (.ireturn, 16, 1) := by decide +kernel
theorem f141_16 : z_fetch 141 16 = some (.aload 0, 17, 0) := by decide +kernel
theorem f141_17 : z_fetch 141 17 = some (.invokevirtual 121, 20, 0) := by decide +kernel
theorem f141_20 : z_fetch 141 20 = some (.iconst 3, 21, 0) := by decide +kernel
theorem f141_21 : z_fetch 141 21 = some (.aload 0, 22, 0) := by decide +kernel
theorem f141_22 : z_fetch 141 22 = some (.getfield 11, 25, 10) := by decide +kernel
theorem f141_25 : z_fetch 141 25 = some (.imul, 26, 0) := by decide +kernel
theorem f141_26 : z_fetch 141 26 = some (.istore 2, 27, 0) := by decide +kernel
theorem f141_27 : z_fetch 141 27 = some (.aload 0, 28, 0) := by decide +kernel
theorem f141_28 : z_fetch 141 28 = some (.iconst 0, 29, 0) := by decide +kernel
theorem f141_29 : z_fetch 141 29 = some (.iconst 1999, 32, 0) := by decide +kernel
theorem f141_32 : z_fetch 141 32 = some (.invokevirtual 122, 35, 0) := by decide +kernel
theorem f141_35 : z_fetch 141 35 = some (.ifCond .ne 0, 38, 40) := by decide +kernel
theorem f141_38 : z_fetch 141 38 = some (.iconst 0, 39, 0) := by decide +kernel
theorem f141_39 : z_fetch 141 39 = some (.ireturn, 40, 1) := by decide +kernel
theorem f141_40 : z_fetch 141 40 = some (.aload 0, 41, 0) := by decide +kernel
theorem f141_41 : z_fetch 141 41 = some (.instanceof 11, 44, 12) := by decide +kernel
theorem f141_44 : z_fetch 141 44 = some (.iload 2, 45, 0) := by decide +kernel
theorem f141_45 : z_fetch 141 45 = some (.aload 0, 46, 0) := by decide +kernel
theorem f141_46 : z_fetch 141 46 = some (.getfield 11, 49, 15) := by decide +kernel
theorem f141_49 : z_fetch 141 49 = some (.iastore, 50, 0) := by decide +kernel
theorem f141_50 : z_fetch 141 50 = some (.aload 0, 51, 0) := by decide +kernel
theorem f141_51 : z_fetch 141 51 = some (.iconst 0, 52, 0) := by decide +kernel
theorem f141_52 : z_fetch 141 52 = some (.aload 0, 53, 0) := by decide +kernel
theorem f141_53 : z_fetch 141 53 = some (.getfield 11, 56, 7) := by decide +kernel
theorem f141_56 : z_fetch 141 56 = some (.iconst 1, 57, 0) := by decide +kernel
theorem f141_57 : z_fetch 141 57 = some (.isub, 58, 0) := by decide +kernel
theorem f141_58 : z_fetch 141 58 = some (.invokevirtual 122, 61, 0) := by decide +kernel
theorem f141_61 : z_fetch 141 61 = some (.ifCond .ne 0, 64, 66) := by decide +kernel
theorem f141_64 : z_fetch 141 64 = some (.iconst 0, 65, 0) := by decide +kernel
theorem f141_65 : z_fetch 141 65 = some (.ireturn, 66, 1) := by decide +kernel
theorem f141_66 : z_fetch 141 66 = some (.aload 0, 67, 0) := by decide +kernel
theorem f141_67 : z_fetch 141 67 = some (.instanceof 11, 70, 12) := by decide +kernel
theorem f141_70 : z_fetch 141 70 = some (.iload 2, 71, 0) := by decide +kernel
theorem f141_71 : z_fetch 141 71 = some (.iconst 1, 72, 0) := by decide +kernel
theorem f141_72 : z_fetch 141 72 = some (.iadd, 73, 0) := by decide +kernel
theorem f141_73 : z_fetch 141 73 = some (.aload 0, 74, 0) := by decide +kernel
theorem f141_74 : z_fetch 141 74 = some (.getfield 11, 77, 15) := by decide +kernel
theorem f141_77 : z_fetch 141 77 = some (.iastore, 78, 0) := by decide +kernel
theorem f141_78 : z_fetch 141 78 = some (.aload 0, 79, 0) := by decide +kernel
theorem f141_79 : z_fetch 141 79 = some (.invokevirtual 117, 82, 0) := by decide +kernel
theorem f141_82 : z_fetch 141 82 = some (.pop, 83, 0) := by decide +kernel
theorem f141_83 : z_fetch 141 83 = some (.aload 0, 84, 0) := by decide +kernel
theorem f141_84 : z_fetch 141 84 = some (.getfield 11, 87, 13) := by decide +kernel
theorem f141_87 : z_fetch 141 87 = some (.istore 3, 88, 0) := by decide +kernel
theorem f141_88 : z_fetch 141 88 = some (.aload 0, 89, 0) := by decide +kernel
theorem f141_89 : z_fetch 141 89 = some (.iconst 0, 90, 0) := by decide +kernel
theorem f141_90 : z_fetch 141 90 = some (.aload 0, 91, 0) := by decide +kernel
theorem f141_91 : z_fetch 141 91 = some (.getfield 11, 94, 7) := by decide +kernel
theorem f141_94 : z_fetch 141 94 = some (.iconst 1, 95, 0) := by decide +kernel
theorem f141_95 : z_fetch 141 95 = some (.isub, 96, 0) := by decide +kernel
theorem f141_96 : z_fetch 141 96 = some (.invokevirtual 122, 99, 0) := by decide +kernel
theorem f141_99 : z_fetch 141 99 = some (.ifCond .ne 0, 102, 104) := by decide +kernel
theorem f141_102 : z_fetch 141 102 = some (.iconst 0, 103, 0) := by decide +kernel
theorem f141_103 : z_fetch 141 103 = some (.ireturn, 104, 1) := by decide +kernel
theorem f141_104 : z_fetch 141 104 = some (.aload 0, 105, 0) := by decide +kernel
theorem f141_105 : z_fetch 141 105 = some (.getfield 11, 108, 15) := by decide +kernel
theorem f141_108 : z_fetch 141 108 = some (.aload 0, 109, 0) := by decide +kernel
theorem f141_109 : z_fetch 141 109 = some (.instanceof 11, 112, 12) := by decide +kernel
theorem f141_112 : z_fetch 141 112 = some (.iload 2, 113, 0) := by decide +kernel
theorem f141_113 : z_fetch 141 113 = some (.iconst 1, 114, 0) := by decide +kernel
theorem f141_114 : z_fetch 141 114 = some (.iadd, 115, 0) := by decide +kernel
theorem f141_115 : z_fetch 141 115 = some (.iaload, 116, 0) := by decide +kernel
theorem f141_116 : z_fetch 141 116 = some (.if_icmp .ne 0, 119, 126) := by decide +kernel
theorem f141_119 : z_fetch 141 119 = some (.aload 0, 120, 0) := by decide +kernel
theorem f141_120 : z_fetch 141 120 = some (.iconst 1, 121, 0) := by decide +kernel
theorem f141_121 : z_fetch 141 121 = some (.iload 3, 122, 0) := by decide +kernel
theorem f141_122 : z_fetch 141 122 = some (.invokevirtual 116, 125, 0) := by decide +kernel
theorem f141_125 : z_fetch 141 125 = some (.ireturn, 126, 1) := by decide +kernel
theorem f141_126 : z_fetch 141 126 = some (.aload 0, 127, 0) := by decide +kernel
theorem f141_127 : z_fetch 141 127 = some (.instanceof 11, 130, 12) := by decide +kernel
theorem f141_130 : z_fetch 141 130 = some (.iload 2, 131, 0) := by decide +kernel
theorem f141_131 : z_fetch 141 131 = some (.iconst 2, 132, 0) := by decide +kernel
theorem f141_132 : z_fetch 141 132 = some (.iadd, 133, 0) := by decide +kernel
theorem f141_133 : z_fetch 141 133 = some (.aload 0, 134, 0) := by decide +kernel
theorem f141_134 : z_fetch 141 134 = some (.getfield 11, 137, 15) := by decide +kernel
theorem f141_137 : z_fetch 141 137 = some (.iastore, 138, 0) := by decide +kernel
theorem f141_138 : z_fetch 141 138 = some (.aload 0, 139, 0) := by decide +kernel
theorem f141_139 : z_fetch 141 139 = some (.dup, 140, 0) := by decide +kernel
theorem f141_140 : z_fetch 141 140 = some (.getfield 11, 143, 10) := by decide +kernel
theorem f141_143 : z_fetch 141 143 = some (.iconst 1, 144, 0) := by decide +kernel
theorem f141_144 : z_fetch 141 144 = some (.iadd, 145, 0) := by decide +kernel
theorem f141_145 : z_fetch 141 145 = some (.putfield 11, 148, 10) := by decide +kernel
theorem f141_148 : z_fetch 141 148 = some (.iconst 1, 149, 0) := by decide +kernel
theorem f141_149 : z_fetch 141 149 = some (.ireturn, 150, 1) := by decide +kernel
theorem f142_0 : z_fetch 142 0 = some (.aload 0, 1, 0) := by decide +kernel
theorem f142_1 : z_fetch 142 1 = some (.goto_w 123580963646565, 4, 0) := by decide +kernel
theorem f142_4 : z_fetch 142 4 = some (.invokevirtual 120, 7, 0) := by decide +kernel
theorem f142_7 : z_fetch 142 7 = some (.ifCond .eq 0, 10, 16) := by decide +kernel
theorem f142_10 : z_fetch 142 10 = some (.aload 0, 11, 0) := by decide +kernel
theorem f142_11 : z_fetch 142 11 = some (.iload 1, 12, 0) := by decide +kernel
theorem f142_12 : z_fetch 142 12 = some (.invokevirtual 138, 15, 0) := by decide +kernel
theorem f142_15 : z_fetch 142 15 = some (.ireturn, 16, 1) := by decide +kernel
theorem f142_16 : z_fetch 142 16 = some (.aload 0, 17, 0) := by decide +kernel
theorem f142_17 : z_fetch 142 17 = some (.getfield 11, 20, 7) := by decide +kernel
theorem f142_20 : z_fetch 142 20 = some (.ifCond .ne 0, 23, 30) := by decide +kernel
theorem f142_23 : z_fetch 142 23 = some (.aload 0, 24, 0) := by decide +kernel
theorem f142_24 : z_fetch 142 24 = some (.iconst 4, 25, 0) := by decide +kernel
theorem f142_25 : z_fetch 142 25 = some (.iload 1, 26, 0) := by decide +kernel
theorem f142_26 : z_fetch 142 26 = some (.invokevirtual 116, 29, 0) := by decide +kernel
theorem f142_29 : z_fetch 142 29 = some (.ireturn, 30, 1) := by decide +kernel
theorem f142_30 : z_fetch 142 30 = some (.aload 0, 31, 0) := by decide +kernel
theorem f142_31 : z_fetch 142 31 = some (.goto_w 2036687218, 34, 0) := by decide +kernel
theorem f142_34 : z_fetch 142 34 = some (.invokevirtual 120, 37, 0) := by decide +kernel
theorem f142_37 : z_fetch 142 37 = some (.ifCond .eq 0, 40, 48) := by decide +kernel
theorem f142_40 : z_fetch 142 40 = some (.aload 0, 41, 0) := by decide +kernel
theorem f142_41 : z_fetch 142 41 = some (.iload 1, 42, 0) := by decide +kernel
theorem f142_42 : z_fetch 142 42 = some (.invokevirtual 139, 45, 0) := by decide +kernel
theorem f142_45 : z_fetch 142 45 = some (.goto 0, 48, 71) := by decide +kernel
theorem f142_48 : z_fetch 142 48 = some (.aload 0, 49, 0) := by decide +kernel
theorem f142_49 : z_fetch 142 49 = some (.goto_w 1668245870, 52, 0) := by decide +kernel
theorem f142_52 : z_fetch 142 52 = some (.invokevirtual 120, 55, 0) := by decide +kernel
theorem f142_55 : z_fetch 142 55 = some (.ifCond .eq 0, 58, 66) := by decide +kernel
theorem f142_58 : z_fetch 142 58 = some (.aload 0, 59, 0) := by decide +kernel
theorem f142_59 : z_fetch 142 59 = some (.iload 1, 60, 0) := by decide +kernel
theorem f142_60 : z_fetch 142 60 = some (.invokevirtual 140, 63, 0) := by decide +kernel
theorem f142_63 : z_fetch 142 63 = some (.goto 0, 66, 71) := by decide +kernel
theorem f142_66 : z_fetch 142 66 = some (.aload 0, 67, 0) := by decide +kernel
theorem f142_67 : z_fetch 142 67 = some (.iload 1, 68, 0) := by decide +kernel
theorem f142_68 : z_fetch 142 68 = some (.invokevirtual 141, 71, 0) := by decide +kernel
theorem f142_71 : z_fetch 142 71 = some (.ireturn, 72, 1) := by decide +kernel
theorem f143_0 : z_fetch 143 0 = some (.aload 0, 1, 0) := by decide +kernel
theorem f143_1 : z_fetch 143 1 = some (.goto_w 7364985, 4, 0) := by decide +kernel
theorem f143_4 : z_fetch 143 4 = some (.invokevirtual 120, 7, 0) := by decide +kernel
theorem f143_7 : z_fetch 143 7 = some (.ifCond .eq 0, 10, 14) := by decide +kernel
theorem f143_10 : z_fetch 143 10 = some (.iconst 0, 11, 0) := by decide +kernel
theorem f143_11 : z_fetch 143 11 = some (.goto 0, 14, 43) := by decide +kernel
theorem f143_14 : z_fetch 143 14 = some (.aload 0, 15, 0) := by decide +kernel
theorem f143_15 : z_fetch 143 15 = some (.goto_w 6447474, 18, 0) := by decide +kernel
theorem f143_18 : z_fetch 143 18 = some (.invokevirtual 120, 21, 0) := by decide +kernel
theorem f143_21 : z_fetch 143 21 = some (.ifCond .eq 0, 24, 28) := by decide +kernel
theorem f143_24 : z_fetch 143 24 = some (.iconst 1, 25, 0) := by decide +kernel
theorem f143_25 : z_fetch 143 25 = some (.goto 0, 28, 43) := by decide +kernel
theorem f143_28 : z_fetch 143 28 = some (.aload 0, 29, 0) := by decide +kernel
theorem f143_29 : z_fetch 143 29 = some (.goto_w 1752132965, 32, 0) := by decide +kernel
theorem f143_32 : z_fetch 143 32 = some (.invokevirtual 120, 35, 0) := by decide +kernel
theorem f143_35 : z_fetch 143 35 = some (.ifCond .eq 0, 38, 42) := by decide +kernel
theorem f143_38 : z_fetch 143 38 = some (.iconst 2, 39, 0) := by decide +kernel
theorem f143_39 : z_fetch 143 39 = some (.goto 0, 42, 43) := by decide +kernel
theorem f143_42 : z_fetch 143 42 = some (.iconst (-1), 43, 0) := by decide +kernel
theorem f143_43 : z_fetch 143 43 = some (.ireturn, 44, 0) := by decide +kernel
theorem f144_0 : z_fetch 144 0 = some (.aload 0, 1, 0) := by decide +kernel
theorem f144_1 : z_fetch 144 1 = some (.invokevirtual 117, 4, 0) := by decide +kernel
theorem f144_4 : z_fetch 144 4 = some (.pop, 5, 0) := by decide +kernel
theorem f144_5 : z_fetch 144 5 = some (.aload 0, 6, 0) := by decide +kernel
theorem f144_6 : z_fetch 144 6 = some (.getfield 11, 9, 13) := by decide +kernel
theorem f144_9 : z_fetch 144 9 = some (.istore 1, 10, 0) := by decide +kernel
theorem f144_10 : z_fetch 144 10 = some (.aload 0, 11, 0) := by decide +kernel
theorem f144_11 : z_fetch 144 11 = some (.getfield 11, 14, 16) := by decide +kernel
theorem f144_14 : z_fetch 144 14 = some (.iconst 6, 16, 0) := by decide +kernel
theorem f144_16 : z_fetch 144 16 = some (.if_icmp .ne 0, 19, 23) := by decide +kernel
theorem f144_19 : z_fetch 144 19 = some (.iconst 1, 20, 0) := by decide +kernel
theorem f144_20 : z_fetch 144 20 = some (.goto 0, 23, 24) := by decide +kernel
theorem f144_23 : z_fetch 144 23 = some (.iconst 0, 24, 0) := by decide +kernel
theorem f144_24 : z_fetch 144 24 = some (.istore 2, 25, 0) := by decide +kernel
theorem f144_25 : z_fetch 144 25 = some (.iload 2, 26, 0) := by decide +kernel
theorem f144_26 : z_fetch 144 26 = some (.ifCond .eq 0, 29, 77) := by decide +kernel
theorem f144_29 : z_fetch 144 29 = some (.aload 0, 30, 0) := by decide +kernel
theorem f144_30 : z_fetch 144 30 = some (.goto_w 123580963646565, 33, 0) := by decide +kernel
theorem f144_33 : z_fetch 144 33 = some (.invokevirtual 120, 36, 0) := by decide +kernel
theorem f144_36 : z_fetch 144 36 = some (.ifCond .ne 0, 39, 69) := by decide +kernel
theorem f144_39 : z_fetch 144 39 = some (.aload 0, 40, 0) := by decide +kernel
theorem f144_40 : z_fetch 144 40 = some (.goto_w 2036687218, 43, 0) := by decide +kernel
theorem f144_43 : z_fetch 144 43 = some (.invokevirtual 120, 46, 0) := by decide +kernel
theorem f144_46 : z_fetch 144 46 = some (.ifCond .ne 0, 49, 69) := by decide +kernel
theorem f144_49 : z_fetch 144 49 = some (.aload 0, 50, 0) := by decide +kernel
theorem f144_50 : z_fetch 144 50 = some (.goto_w 1668245870, 53, 0) := by decide +kernel
theorem f144_53 : z_fetch 144 53 = some (.invokevirtual 120, 56, 0) := by decide +kernel
theorem f144_56 : z_fetch 144 56 = some (.ifCond .ne 0, 59, 69) := by decide +kernel
theorem f144_59 : z_fetch 144 59 = some (.aload 0, 60, 0) := by decide +kernel
theorem f144_60 : z_fetch 144 60 = some (.goto_w 1835361652, 63, 0) := by decide +kernel
theorem f144_63 : z_fetch 144 63 = some (.invokevirtual 120, 66, 0) := by decide +kernel
theorem f144_66 : z_fetch 144 66 = some (.ifCond .eq 0, 69, 73) := by decide +kernel
theorem f144_69 : z_fetch 144 69 = some (.iconst 1, 70, 0) := by decide +kernel
theorem f144_70 : z_fetch 144 70 = some (.goto 0, 73, 89) := by decide +kernel
theorem f144_73 : z_fetch 144 73 = some (.iconst 0, 74, 0) := by decide +kernel
theorem f144_74 : z_fetch 144 74 = some (.goto 0, 77, 89) := by decide +kernel
theorem f144_77 : z_fetch 144 77 = some (.aload 0, 78, 0) := by decide +kernel
theorem f144_78 : z_fetch 144 78 = some (.invokevirtual 143, 81, 0) := by decide +kernel
theorem f144_81 : z_fetch 144 81 = some (.ifCond .lt 0, 84, 88) := by decide +kernel
theorem f144_84 : z_fetch 144 84 = some (.iconst 1, 85, 0) := by decide +kernel
theorem f144_85 : z_fetch 144 85 = some (.goto 0, 88, 89) := by decide +kernel
theorem f144_88 : z_fetch 144 88 = some (.iconst 0, 89, 0) := by decide +kernel
theorem f144_89 : z_fetch 144 89 = some (.istore 3, 90, 0) := by decide +kernel
theorem f144_90 : z_fetch 144 90 = some (.iload 3, 91, 0) := by decide +kernel
theorem f144_91 : z_fetch 144 91 = some (.ifCond .ne 0, 94, 101) := by decide +kernel
theorem f144_94 : z_fetch 144 94 = some (.aload 0, 95, 0) := by decide +kernel
theorem f144_95 : z_fetch 144 95 = some (.iconst 0, 96, 0) := by decide +kernel
theorem f144_96 : z_fetch 144 96 = some (.iload 1, 97, 0) := by decide +kernel
theorem f144_97 : z_fetch 144 97 = some (.invokevirtual 116, 100, 0) := by decide +kernel
theorem f144_100 : z_fetch 144 100 = some (.ireturn, 101, 1) := by decide +kernel
theorem f144_101 : z_fetch 144 101 = some (.aload 0, 102, 0) := by decide +kernel
theorem f144_102 : z_fetch 144 102 = some (.getfield 11, 105, 19) := by decide +kernel
theorem f144_105 : z_fetch 144 105 = some (.iload 2, 106, 0) := by decide +kernel
theorem f144_106 : z_fetch 144 106 = some (.ifCond .eq 0, 109, 114) := by decide +kernel
theorem f144_109 : z_fetch 144 109 = some (.iconst 40, 111, 0) := by decide +kernel
theorem f144_111 : z_fetch 144 111 = some (.goto 0, 114, 116) := by decide +kernel
theorem f144_114 : z_fetch 144 114 = some (.iconst 12, 116, 0) := by decide +kernel
theorem f144_116 : z_fetch 144 116 = some (.if_icmp .ne 0, 119, 126) := by decide +kernel
theorem f144_119 : z_fetch 144 119 = some (.aload 0, 120, 0) := by decide +kernel
theorem f144_120 : z_fetch 144 120 = some (.iconst 4, 121, 0) := by decide +kernel
theorem f144_121 : z_fetch 144 121 = some (.iload 1, 122, 0) := by decide +kernel
theorem f144_122 : z_fetch 144 122 = some (.invokevirtual 116, 125, 0) := by decide +kernel
theorem f144_125 : z_fetch 144 125 = some (.ireturn, 126, 1) := by decide +kernel
theorem f144_126 : z_fetch 144 126 = some (.aload 0, 127, 0) := by decide +kernel
theorem f144_127 : z_fetch 144 127 = some (.dup, 128, 0) := by decide +kernel
theorem f144_128 : z_fetch 144 128 = some (.getfield 11, 131, 19) := by decide +kernel
theorem f144_131 : z_fetch 144 131 = some (.iconst 1, 132, 0) := by decide +kernel
theorem f144_132 : z_fetch 144 132 = some (.iadd, 133, 0) := by decide +kernel
theorem f144_133 : z_fetch 144 133 = some (.putfield 11, 136, 19) := by decide +kernel
theorem f144_136 : z_fetch 144 136 = some (.iload 2, 137, 0) := by decide +kernel
theorem f144_137 : z_fetch 144 137 = some (.ifCond .eq 0, 140, 148) := by decide +kernel
theorem f144_140 : z_fetch 144 140 = some (.aload 0, 141, 0) := by decide +kernel
theorem f144_141 : z_fetch 144 141 = some (.iload 1, 142, 0) := by decide +kernel
theorem f144_142 : z_fetch 144 142 = some (.invokevirtual 142, 145, 0) := by decide +kernel
theorem f144_145 : z_fetch 144 145 = some (.goto 0, 148, 156) := by decide +kernel
theorem f144_148 : z_fetch 144 148 = some (.aload 0, 149, 0) := by decide +kernel
theorem f144_149 : z_fetch 144 149 = some (.aload 0, 150, 0) := by decide +kernel
theorem f144_150 : z_fetch 144 150 = some (.invokevirtual 143, 153, 0) := by decide +kernel
theorem f144_153 : z_fetch 144 153 = some (.invokevirtual 137, 156, 0) := by decide +kernel
theorem f144_156 : z_fetch 144 156 = some (.ireturn, 157, 1) := by decide +kernel
theorem f145_0 : z_fetch 145 0 = some (.aload 0, 1, 0) := by decide +kernel
theorem f145_1 : z_fetch 145 1 = some (.instanceof 11, 4, 4) := by decide +kernel
theorem f145_4 : z_fetch 145 4 = some (.aload 0, 5, 0) := by decide +kernel
theorem f145_5 : z_fetch 145 5 = some (.getfield 11, 8, 16) := by decide +kernel
theorem f145_8 : z_fetch 145 8 = some (.iconst 0, 9, 0) := by decide +kernel
theorem f145_9 : z_fetch 145 9 = some (.iastore, 10, 0) := by decide +kernel
theorem f145_10 : z_fetch 145 10 = some (.aload 0, 11, 0) := by decide +kernel
theorem f145_11 : z_fetch 145 11 = some (.iconst 0, 12, 0) := by decide +kernel
theorem f145_12 : z_fetch 145 12 = some (.putfield 11, 15, 19) := by decide +kernel
theorem f145_15 : z_fetch 145 15 = some (.aload 0, 16, 0) := by decide +kernel
theorem f145_16 : z_fetch 145 16 = some (.iconst 0, 17, 0) := by decide +kernel
theorem f145_17 : z_fetch 145 17 = some (.putfield 11, 20, 13) := by decide +kernel
theorem f145_20 : z_fetch 145 20 = some (.aload 0, 21, 0) := by decide +kernel
theorem f145_21 : z_fetch 145 21 = some (.iconst 0, 22, 0) := by decide +kernel
theorem f145_22 : z_fetch 145 22 = some (.putfield 11, 25, 14) := by decide +kernel
theorem f145_25 : z_fetch 145 25 = some (.aload 0, 26, 0) := by decide +kernel
theorem f145_26 : z_fetch 145 26 = some (.iconst 0, 27, 0) := by decide +kernel
theorem f145_27 : z_fetch 145 27 = some (.putfield 11, 30, 17) := by decide +kernel
theorem f145_30 : z_fetch 145 30 = some (.aload 0, 31, 0) := by decide +kernel
theorem f145_31 : z_fetch 145 31 = some (.invokevirtual 144, 34, 0) := by decide +kernel
theorem f145_34 : z_fetch 145 34 = some (.istore 1, 35, 0) := by decide +kernel
theorem f145_35 : z_fetch 145 35 = some (.iload 1, 36, 0) := by decide +kernel
theorem f145_36 : z_fetch 145 36 = some (.ifCond .eq 0, 39, 66) := by decide +kernel
theorem f145_39 : z_fetch 145 39 = some (.aload 0, 40, 0) := by decide +kernel
theorem f145_40 : z_fetch 145 40 = some (.invokevirtual 117, 43, 0) := by decide +kernel
theorem f145_43 : z_fetch 145 43 = some (.iconst 59, 45, 0) := by decide +kernel
theorem f145_45 : z_fetch 145 45 = some (.if_icmp .ne 0, 48, 66) := by decide +kernel
theorem f145_48 : z_fetch 145 48 = some (.aload 0, 49, 0) := by decide +kernel
theorem f145_49 : z_fetch 145 49 = some (.dup, 50, 0) := by decide +kernel
theorem f145_50 : z_fetch 145 50 = some (.getfield 11, 53, 13) := by decide +kernel
theorem f145_53 : z_fetch 145 53 = some (.iconst 1, 54, 0) := by decide +kernel
theorem f145_54 : z_fetch 145 54 = some (.iadd, 55, 0) := by decide +kernel
theorem f145_55 : z_fetch 145 55 = some (.putfield 11, 58, 13) := by decide +kernel
theorem f145_58 : z_fetch 145 58 = some (.aload 0, 59, 0) := by decide +kernel
theorem f145_59 : z_fetch 145 59 = some (.invokevirtual 144, 62, 0) := by decide +kernel
theorem f145_62 : z_fetch 145 62 = some (.istore 1, 63, 0) := by decide +kernel
theorem f145_63 : z_fetch 145 63 = some (.goto 0, 66, 35) := by decide +kernel
theorem f145_66 : z_fetch 145 66 = some (.iload 1, 67, 0) := by decide +kernel
theorem f145_67 : z_fetch 145 67 = some (.ifCond .eq 0, 70, 88) := by decide +kernel
theorem f145_70 : z_fetch 145 70 = some (.aload 0, 71, 0) := by decide +kernel
theorem f145_71 : z_fetch 145 71 = some (.invokevirtual 117, 74, 0) := by decide +kernel
theorem f145_74 : z_fetch 145 74 = some (.iconst (-1), 75, 0) := by decide +kernel
theorem f145_75 : z_fetch 145 75 = some (.if_icmp .eq 0, 78, 88) := by decide +kernel
theorem f145_78 : z_fetch 145 78 = some (.aload 0, 79, 0) := by decide +kernel
theorem f145_79 : z_fetch 145 79 = some (.iconst 0, 80, 0) := by decide +kernel
theorem f145_80 : z_fetch 145 80 = some (.aload 0, 81, 0) := by decide +kernel
theorem f145_81 : z_fetch 145 81 = some (.getfield 11, 84, 13) := by decide +kernel
theorem f145_84 : z_fetch 145 84 = some (.invokevirtual 116, 87, 0) := by decide +kernel
theorem f145_87 : z_fetch 145 87 = some (.pop, 88, 0) := by decide +kernel
theorem f145_88 : z_fetch 145 88 = some (.aload 0, 89, 0) := by decide +kernel
theorem f145_89 : z_fetch 145 89 = some (.iconst 0, 90, 0) := by decide +kernel
theorem f145_90 : z_fetch 145 90 = some (.putfield 11, 93, 1) := by decide +kernel
theorem f145_93 : z_fetch 145 93 = some (.aload 0, 94, 0) := by decide +kernel
theorem f145_94 : z_fetch 145 94 = some (.getfield 11, 97, 14) := by decide +kernel
theorem f145_97 : z_fetch 145 97 = some (.ifCond .ne 0, 100, 104) := by decide +kernel
theorem f145_100 : z_fetch 145 100 = some (.iconst 1, 101, 0) := by decide +kernel
theorem f145_101 : z_fetch 145 101 = some (.goto 0, 104, 105) := by decide +kernel
theorem f145_104 : z_fetch 145 104 = some (.iconst 0, 105, 0) := by decide +kernel
theorem f145_105 : z_fetch 145 105 = some (.ireturn, 106, 1) := by decide +kernel
theorem f146_0 : z_fetch 146 0 = some (.aload 0, 1, 0) := by decide +kernel
theorem f146_1 : z_fetch 146 1 = some (.getfield 11, 4, 2) := by decide +kernel
theorem f146_4 : z_fetch 146 4 = some (.iconst 6, 6, 0) := by decide +kernel
theorem f146_6 : z_fetch 146 6 = some (.if_icmp .ne 0, 9, 11) := by decide +kernel
theorem f146_9 : z_fetch 146 9 = some (.iconst (-1), 10, 0) := by decide +kernel
theorem f146_10 : z_fetch 146 10 = some (.ireturn, 11, 0) := by decide +kernel
theorem f146_11 : z_fetch 146 11 = some (.aload 0, 12, 0) := by decide +kernel
theorem f146_12 : z_fetch 146 12 = some (.aload 0, 13, 0) := by decide +kernel
theorem f146_13 : z_fetch 146 13 = some (.getfield 11, 16, 2) := by decide +kernel
theorem f146_16 : z_fetch 146 16 = some (.putfield 11, 19, 16) := by decide +kernel
theorem f146_19 : z_fetch 146 19 = some (.aload 0, 20, 0) := by decide +kernel
theorem f146_20 : z_fetch 146 20 = some (.instanceof 11, 23, 6) := by decide +kernel
theorem f146_23 : z_fetch 146 23 = some (.aload 0, 24, 0) := by decide +kernel
theorem f146_24 : z_fetch 146 24 = some (.getfield 11, 27, 16) := by decide +kernel
theorem f146_27 : z_fetch 146 27 = some (.iconst 0, 28, 0) := by decide +kernel
theorem f146_28 : z_fetch 146 28 = some (.iastore, 29, 0) := by decide +kernel
theorem f146_29 : z_fetch 146 29 = some (.aload 0, 30, 0) := by decide +kernel
theorem f146_30 : z_fetch 146 30 = some (.invokevirtual 145, 33, 0) := by decide +kernel
theorem f146_33 : z_fetch 146 33 = some (.ifCond .ne 0, 36, 44) := by decide +kernel
theorem f146_36 : z_fetch 146 36 = some (.iconst (-2), 38, 0) := by decide +kernel
theorem f146_38 : z_fetch 146 38 = some (.aload 0, 39, 0) := by decide +kernel
theorem f146_39 : z_fetch 146 39 = some (.getfield 11, 42, 14) := by decide +kernel
theorem f146_42 : z_fetch 146 42 = some (.isub, 43, 0) := by decide +kernel
theorem f146_43 : z_fetch 146 43 = some (.ireturn, 44, 0) := by decide +kernel
theorem f146_44 : z_fetch 146 44 = some (.aload 0, 45, 0) := by decide +kernel
theorem f146_45 : z_fetch 146 45 = some (.dup, 46, 0) := by decide +kernel
theorem f146_46 : z_fetch 146 46 = some (.getfield 11, 49, 2) := by decide +kernel
theorem f146_49 : z_fetch 146 49 = some (.iconst 1, 50, 0) := by decide +kernel
theorem f146_50 : z_fetch 146 50 = some (.iadd, 51, 0) := by decide +kernel
theorem f146_51 : z_fetch 146 51 = some (.putfield 11, 54, 2) := by decide +kernel
theorem f146_54 : z_fetch 146 54 = some (.aload 0, 55, 0) := by decide +kernel
theorem f146_55 : z_fetch 146 55 = some (.getfield 11, 58, 2) := by decide +kernel
theorem f146_58 : z_fetch 146 58 = some (.iconst 1, 59, 0) := by decide +kernel
theorem f146_59 : z_fetch 146 59 = some (.isub, 60, 0) := by decide +kernel
theorem f146_60 : z_fetch 146 60 = some (.ireturn, 61, 0) := by decide +kernel
theorem f147_0 : z_fetch 147 0 = some (.aload 0, 1, 0) := by decide +kernel
theorem f147_1 : z_fetch 147 1 = some (.iconst 6, 3, 0) := by decide +kernel
theorem f147_3 : z_fetch 147 3 = some (.putfield 11, 6, 16) := by decide +kernel
theorem f147_6 : z_fetch 147 6 = some (.aload 0, 7, 0) := by decide +kernel
theorem f147_7 : z_fetch 147 7 = some (.iconst 0, 8, 0) := by decide +kernel
theorem f147_8 : z_fetch 147 8 = some (.putfield 11, 11, 7) := by decide +kernel
theorem f147_11 : z_fetch 147 11 = some (.aload 0, 12, 0) := by decide +kernel
theorem f147_12 : z_fetch 147 12 = some (.iconst (-1), 13, 0) := by decide +kernel
theorem f147_13 : z_fetch 147 13 = some (.putfield 11, 16, 8) := by decide +kernel
theorem f147_16 : z_fetch 147 16 = some (.aload 0, 17, 0) := by decide +kernel
theorem f147_17 : z_fetch 147 17 = some (.iconst 0, 18, 0) := by decide +kernel
theorem f147_18 : z_fetch 147 18 = some (.putfield 11, 21, 9) := by decide +kernel
theorem f147_21 : z_fetch 147 21 = some (.aload 0, 22, 0) := by decide +kernel
theorem f147_22 : z_fetch 147 22 = some (.iconst 0, 23, 0) := by decide +kernel
theorem f147_23 : z_fetch 147 23 = some (.putfield 11, 26, 10) := by decide +kernel
theorem f147_26 : z_fetch 147 26 = some (.aload 0, 27, 0) := by decide +kernel
theorem f147_27 : z_fetch 147 27 = some (.invokevirtual 145, 30, 0) := by decide +kernel
theorem f147_30 : z_fetch 147 30 = some (.ifCond .ne 0, 33, 41) := by decide +kernel
theorem f147_33 : z_fetch 147 33 = some (.iconst (-2), 35, 0) := by decide +kernel
theorem f147_35 : z_fetch 147 35 = some (.aload 0, 36, 0) := by decide +kernel
theorem f147_36 : z_fetch 147 36 = some (.getfield 11, 39, 14) := by decide +kernel
theorem f147_39 : z_fetch 147 39 = some (.isub, 40, 0) := by decide +kernel
theorem f147_40 : z_fetch 147 40 = some (.ireturn, 41, 0) := by decide +kernel
theorem f147_41 : z_fetch 147 41 = some (.aload 0, 42, 0) := by decide +kernel
theorem f147_42 : z_fetch 147 42 = some (.instanceof 11, 45, 25) := by decide +kernel
theorem f147_45 : z_fetch 147 45 = some (.iconst 0, 46, 0) := by decide +kernel
theorem f147_46 : z_fetch 147 46 = some (.aload 0, 47, 0) := by decide +kernel
theorem f147_47 : z_fetch 147 47 = some (.getfield 11, 50, 7) := by decide +kernel
theorem f147_50 : z_fetch 147 50 = some (.iastore, 51, 0) := by decide +kernel
theorem f147_51 : z_fetch 147 51 = some (.aload 0, 52, 0) := by decide +kernel
theorem f147_52 : z_fetch 147 52 = some (.instanceof 11, 55, 25) := by decide +kernel
theorem f147_55 : z_fetch 147 55 = some (.iconst 1, 56, 0) := by decide +kernel
theorem f147_56 : z_fetch 147 56 = some (.aload 0, 57, 0) := by decide +kernel
theorem f147_57 : z_fetch 147 57 = some (.getfield 11, 60, 9) := by decide +kernel
theorem f147_60 : z_fetch 147 60 = some (.iastore, 61, 0) := by decide +kernel
theorem f147_61 : z_fetch 147 61 = some (.aload 0, 62, 0) := by decide +kernel
theorem f147_62 : z_fetch 147 62 = some (.instanceof 11, 65, 25) := by decide +kernel
theorem f147_65 : z_fetch 147 65 = some (.iconst 2, 66, 0) := by decide +kernel
theorem f147_66 : z_fetch 147 66 = some (.aload 0, 67, 0) := by decide +kernel
theorem f147_67 : z_fetch 147 67 = some (.getfield 11, 70, 10) := by decide +kernel
theorem f147_70 : z_fetch 147 70 = some (.iastore, 71, 0) := by decide +kernel
theorem f147_71 : z_fetch 147 71 = some (.aload 0, 72, 0) := by decide +kernel
theorem f147_72 : z_fetch 147 72 = some (.instanceof 11, 75, 25) := by decide +kernel
theorem f147_75 : z_fetch 147 75 = some (.iconst 3, 76, 0) := by decide +kernel
theorem f147_76 : z_fetch 147 76 = some (.iconst 0, 77, 0) := by decide +kernel
theorem f147_77 : z_fetch 147 77 = some (.iastore, 78, 0) := by decide +kernel
theorem f147_78 : z_fetch 147 78 = some (.aload 0, 79, 0) := by decide +kernel
theorem f147_79 : z_fetch 147 79 = some (.instanceof 11, 82, 25) := by decide +kernel
theorem f147_82 : z_fetch 147 82 = some (.iconst 4, 83, 0) := by decide +kernel
theorem f147_83 : z_fetch 147 83 = some (.iconst 0, 84, 0) := by decide +kernel
theorem f147_84 : z_fetch 147 84 = some (.iastore, 85, 0) := by decide +kernel
theorem f147_85 : z_fetch 147 85 = some (.aload 0, 86, 0) := by decide +kernel
theorem f147_86 : z_fetch 147 86 = some (.instanceof 11, 89, 25) := by decide +kernel
theorem f147_89 : z_fetch 147 89 = some (.iconst 7, 91, 0) := by decide +kernel
theorem f147_91 : z_fetch 147 91 = some (.aload 0, 92, 0) := by decide +kernel
theorem f147_92 : z_fetch 147 92 = some (.getfield 11, 95, 8) := by decide +kernel
theorem f147_95 : z_fetch 147 95 = some (.ifCond .ge 0, 98, 104) := by decide +kernel
theorem f147_98 : z_fetch 147 98 = some (.iconst 365, 101, 0) := by decide +kernel
theorem f147_101 : z_fetch 147 101 = some (.goto 0, 104, 108) := by decide +kernel
theorem f147_104 : z_fetch 147 104 = some (.aload 0, 105, 0) := by decide +kernel
theorem f147_105 : z_fetch 147 105 = some (.getfield 11, 108, 8) := by decide +kernel
theorem f147_108 : z_fetch 147 108 = some (.iastore, 109, 0) := by decide +kernel
theorem f147_109 : z_fetch 147 109 = some (.iconst 0, 110, 0) := by decide +kernel
theorem f147_110 : z_fetch 147 110 = some (.istore 1, 111, 0) := by decide +kernel
theorem f147_111 : z_fetch 147 111 = some (.iload 1, 112, 0) := by decide +kernel
theorem f147_112 : z_fetch 147 112 = some (.aload 0, 113, 0) := by decide +kernel
theorem f147_113 : z_fetch 147 113 = some (.getfield 11, 116, 9) := by decide +kernel
theorem f147_116 : z_fetch 147 116 = some (.if_icmp .ge 0, 119, 202) := by decide +kernel
theorem f147_119 : z_fetch 147 119 = some (.iconst 8, 121, 0) := by decide +kernel
theorem f147_121 : z_fetch 147 121 = some (.iconst 6, 123, 0) := by decide +kernel
theorem f147_123 : z_fetch 147 123 = some (.iload 1, 124, 0) := by decide +kernel
theorem f147_124 : z_fetch 147 124 = some (.imul, 125, 0) := by decide +kernel
theorem f147_125 : z_fetch 147 125 = some (.iadd, 126, 0) := by decide +kernel
theorem f147_126 : z_fetch 147 126 = some (.istore 2, 127, 0) := by decide +kernel
theorem f147_127 : z_fetch 147 127 = some (.iconst 0, 128, 0) := by decide +kernel
theorem f147_128 : z_fetch 147 128 = some (.istore 3, 129, 0) := by decide +kernel
theorem f147_129 : z_fetch 147 129 = some (.iload 3, 130, 0) := by decide +kernel
theorem f147_130 : z_fetch 147 130 = some (.iconst 3, 131, 0) := by decide +kernel
theorem f147_131 : z_fetch 147 131 = some (.if_icmp .ge 0, 134, 158) := by decide +kernel
theorem f147_134 : z_fetch 147 134 = some (.aload 0, 135, 0) := by decide +kernel
theorem f147_135 : z_fetch 147 135 = some (.instanceof 11, 138, 25) := by decide +kernel
theorem f147_138 : z_fetch 147 138 = some (.iload 2, 139, 0) := by decide +kernel
theorem f147_139 : z_fetch 147 139 = some (.iload 3, 140, 0) := by decide +kernel
theorem f147_140 : z_fetch 147 140 = some (.iadd, 141, 0) := by decide +kernel
theorem f147_141 : z_fetch 147 141 = some (.aload 0, 142, 0) := by decide +kernel
theorem f147_142 : z_fetch 147 142 = some (.instanceof 11, 145, 11) := by decide +kernel
theorem f147_145 : z_fetch 147 145 = some (.iconst 3, 146, 0) := by decide +kernel
theorem f147_146 : z_fetch 147 146 = some (.iload 1, 147, 0) := by decide +kernel
theorem f147_147 : z_fetch 147 147 = some (.imul, 148, 0) := by decide +kernel
theorem f147_148 : z_fetch 147 148 = some (.iload 3, 149, 0) := by decide +kernel
theorem f147_149 : z_fetch 147 149 = some (.iadd, 150, 0) := by decide +kernel
theorem f147_150 : z_fetch 147 150 = some (.iaload, 151, 0) := by decide +kernel
theorem f147_151 : z_fetch 147 151 = some (.iastore, 152, 0) := by decide +kernel
theorem f147_152 : z_fetch 147 152 = some (.iinc 3 1, 155, 0) := by decide +kernel
theorem f147_155 : z_fetch 147 155 = some (.goto 0, 158, 129) := by decide +kernel
theorem f147_158 : z_fetch 147 158 = some (.aload 0, 159, 0) := by decide +kernel
theorem f147_159 : z_fetch 147 159 = some (.instanceof 11, 162, 25) := by decide +kernel
theorem f147_162 : z_fetch 147 162 = some (.iload 2, 163, 0) := by decide +kernel
theorem f147_163 : z_fetch 147 163 = some (.iconst 3, 164, 0) := by decide +kernel
theorem f147_164 : z_fetch 147 164 = some (.iadd, 165, 0) := by decide +kernel
theorem f147_165 : z_fetch 147 165 = some (.iconst 1, 166, 0) := by decide +kernel
theorem f147_166 : z_fetch 147 166 = some (.aload 0, 167, 0) := by decide +kernel
theorem f147_167 : z_fetch 147 167 = some (.instanceof 11, 170, 11) := by decide +kernel
theorem f147_170 : z_fetch 147 170 = some (.iconst 3, 171, 0) := by decide +kernel
theorem f147_171 : z_fetch 147 171 = some (.iload 1, 172, 0) := by decide +kernel
theorem f147_172 : z_fetch 147 172 = some (.imul, 173, 0) := by decide +kernel
theorem f147_173 : z_fetch 147 173 = some (.iconst 1, 174, 0) := by decide +kernel
theorem f147_174 : z_fetch 147 174 = some (.iadd, 175, 0) := by decide +kernel
theorem f147_175 : z_fetch 147 175 = some (.iaload, 176, 0) := by decide +kernel
theorem f147_176 : z_fetch 147 176 = some (.ishl, 177, 0) := by decide +kernel
theorem f147_177 : z_fetch 147 177 = some (.iastore, 178, 0) := by decide +kernel
theorem f147_178 : z_fetch 147 178 = some (.aload 0, 179, 0) := by decide +kernel
theorem f147_179 : z_fetch 147 179 = some (.instanceof 11, 182, 25) := by decide +kernel
theorem f147_182 : z_fetch 147 182 = some (.iload 2, 183, 0) := by decide +kernel
theorem f147_183 : z_fetch 147 183 = some (.iconst 4, 184, 0) := by decide +kernel
theorem f147_184 : z_fetch 147 184 = some (.iadd, 185, 0) := by decide +kernel
theorem f147_185 : z_fetch 147 185 = some (.iconst 0, 186, 0) := by decide +kernel
theorem f147_186 : z_fetch 147 186 = some (.iastore, 187, 0) := by decide +kernel
theorem f147_187 : z_fetch 147 187 = some (.aload 0, 188, 0) := by decide +kernel
theorem f147_188 : z_fetch 147 188 = some (.instanceof 11, 191, 25) := by decide +kernel
theorem f147_191 : z_fetch 147 191 = some (.iload 2, 192, 0) := by decide +kernel
theorem f147_192 : z_fetch 147 192 = some (.iconst 5, 193, 0) := by decide +kernel
theorem f147_193 : z_fetch 147 193 = some (.iadd, 194, 0) := by decide +kernel
theorem f147_194 : z_fetch 147 194 = some (.iconst 0, 195, 0) := by decide +kernel
theorem f147_195 : z_fetch 147 195 = some (.iastore, 196, 0) := by decide +kernel
theorem f147_196 : z_fetch 147 196 = some (.iinc 1 1, 199, 0) := by decide +kernel
theorem f147_199 : z_fetch 147 199 = some (.goto 0, 202, 111) := by decide +kernel
theorem f147_202 : z_fetch 147 202 = some (.iconst 0, 203, 0) := by decide +kernel
theorem f147_203 : z_fetch 147 203 = some (.istore 1, 204, 0) := by decide +kernel
theorem f147_204 : z_fetch 147 204 = some (.iload 1, 205, 0) := by decide +kernel
theorem f147_205 : z_fetch 147 205 = some (.iconst 3, 206, 0) := by decide +kernel
theorem f147_206 : z_fetch 147 206 = some (.aload 0, 207, 0) := by decide +kernel
theorem f147_207 : z_fetch 147 207 = some (.getfield 11, 210, 10) := by decide +kernel
theorem f147_210 : z_fetch 147 210 = some (.imul, 211, 0) := by decide +kernel
theorem f147_211 : z_fetch 147 211 = some (.if_icmp .ge 0, 214, 235) := by decide +kernel
theorem f147_214 : z_fetch 147 214 = some (.aload 0, 215, 0) := by decide +kernel
theorem f147_215 : z_fetch 147 215 = some (.instanceof 11, 218, 25) := by decide +kernel
theorem f147_218 : z_fetch 147 218 = some (.iconst 56, 220, 0) := by decide +kernel
theorem f147_220 : z_fetch 147 220 = some (.iload 1, 221, 0) := by decide +kernel
theorem f147_221 : z_fetch 147 221 = some (.iadd, 222, 0) := by decide +kernel
theorem f147_222 : z_fetch 147 222 = some (.aload 0, 223, 0) := by decide +kernel
theorem f147_223 : z_fetch 147 223 = some (.instanceof 11, 226, 12) := by decide +kernel
theorem f147_226 : z_fetch 147 226 = some (.iload 1, 227, 0) := by decide +kernel
theorem f147_227 : z_fetch 147 227 = some (.iaload, 228, 0) := by decide +kernel
theorem f147_228 : z_fetch 147 228 = some (.iastore, 229, 0) := by decide +kernel
theorem f147_229 : z_fetch 147 229 = some (.iinc 1 1, 232, 0) := by decide +kernel
theorem f147_232 : z_fetch 147 232 = some (.goto 0, 235, 204) := by decide +kernel
theorem f147_235 : z_fetch 147 235 = some (.iconst 0, 236, 0) := by decide +kernel
theorem f147_236 : z_fetch 147 236 = some (.istore 1, 237, 0) := by decide +kernel
theorem f147_237 : z_fetch 147 237 = some (.iload 1, 238, 0) := by decide +kernel
theorem f147_238 : z_fetch 147 238 = some (.iconst 8, 240, 0) := by decide +kernel
theorem f147_240 : z_fetch 147 240 = some (.if_icmp .ge 0, 243, 260) := by decide +kernel
theorem f147_243 : z_fetch 147 243 = some (.aload 0, 244, 0) := by decide +kernel
theorem f147_244 : z_fetch 147 244 = some (.instanceof 11, 247, 25) := by decide +kernel
theorem f147_247 : z_fetch 147 247 = some (.iconst 131, 250, 0) := by decide +kernel
theorem f147_250 : z_fetch 147 250 = some (.iload 1, 251, 0) := by decide +kernel
theorem f147_251 : z_fetch 147 251 = some (.iadd, 252, 0) := by decide +kernel
theorem f147_252 : z_fetch 147 252 = some (.iconst (-1), 253, 0) := by decide +kernel
theorem f147_253 : z_fetch 147 253 = some (.iastore, 254, 0) := by decide +kernel
theorem f147_254 : z_fetch 147 254 = some (.iinc 1 1, 257, 0) := by decide +kernel
theorem f147_257 : z_fetch 147 257 = some (.goto 0, 260, 237) := by decide +kernel
theorem f147_260 : z_fetch 147 260 = some (.aload 0, 261, 0) := by decide +kernel
theorem f147_261 : z_fetch 147 261 = some (.getfield 11, 264, 9) := by decide +kernel
theorem f147_264 : z_fetch 147 264 = some (.ireturn, 265, 0) := by decide +kernel
theorem f148_0 : z_fetch 148 0 = some (.iload 1, 1, 0) := by decide +kernel
theorem f148_1 : z_fetch 148 1 = some (.ifCond .lt 0, 4, 16) := by decide +kernel
theorem f148_4 : z_fetch 148 4 = some (.iload 1, 5, 0) := by decide +kernel
theorem f148_5 : z_fetch 148 5 = some (.aload 0, 6, 0) := by decide +kernel
theorem f148_6 : z_fetch 148 6 = some (.getfield 11, 9, 2) := by decide +kernel
theorem f148_9 : z_fetch 148 9 = some (.if_icmp .ge 0, 12, 16) := by decide +kernel
theorem f148_12 : z_fetch 148 12 = some (.iconst 1, 13, 0) := by decide +kernel
theorem f148_13 : z_fetch 148 13 = some (.goto 0, 16, 17) := by decide +kernel
theorem f148_16 : z_fetch 148 16 = some (.iconst 0, 17, 0) := by decide +kernel
theorem f148_17 : z_fetch 148 17 = some (.ireturn, 18, 1) := by decide +kernel
theorem f149_0 : z_fetch 149 0 = some (.aload 0, 1, 0) := by decide +kernel
theorem f149_1 : z_fetch 149 1 = some (.instanceof 11, 4, 22) := by decide +kernel
theorem f149_4 : z_fetch 149 4 = some (.aload 0, 5, 0) := by decide +kernel
theorem f149_5 : z_fetch 149 5 = some (.getfield 11, 8, 23) := by decide +kernel
theorem f149_8 : z_fetch 149 8 = some (.lload 1, 9, 0) := by decide +kernel
theorem f149_9 : z_fetch 149 9 = some (.lastore, 10, 0) := by decide +kernel
theorem f149_10 : z_fetch 149 10 = some (.aload 0, 11, 0) := by decide +kernel
theorem f149_11 : z_fetch 149 11 = some (.dup, 12, 0) := by decide +kernel
theorem f149_12 : z_fetch 149 12 = some (.getfield 11, 15, 23) := by decide +kernel
theorem f149_15 : z_fetch 149 15 = some (.iconst 1, 16, 0) := by decide +kernel
theorem f149_16 : z_fetch 149 16 = some (.iadd, 17, 0) := by decide +kernel
theorem f149_17 : z_fetch 149 17 = some (.putfield 11, 20, 23) := by decide +kernel
theorem f149_20 : z_fetch 149 20 = some (.return_, 21, 0) := by decide +kernel
theorem f150_0 : z_fetch 150 0 = some (.aload 0, 1, 0) := by decide +kernel
theorem f150_1 : z_fetch 150 1 = some (.dup, 2, 0) := by decide +kernel
theorem f150_2 : z_fetch 150 2 = some (.getfield 11, 5, 23) := by decide +kernel
theorem f150_5 : z_fetch 150 5 = some (.iconst 1, 6, 0) := by decide +kernel
theorem f150_6 : z_fetch 150 6 = some (.isub, 7, 0) := by decide +kernel
theorem f150_7 : z_fetch 150 7 = some (.putfield 11, 10, 23) := by decide +kernel
theorem f150_10 : z_fetch 150 10 = some (.aload 0, 11, 0) := by decide +kernel
theorem f150_11 : z_fetch 150 11 = some (.instanceof 11, 14, 22) := by decide +kernel
theorem f150_14 : z_fetch 150 14 = some (.aload 0, 15, 0) := by decide +kernel
theorem f150_15 : z_fetch 150 15 = some (.getfield 11, 18, 23) := by decide +kernel
theorem f150_18 : z_fetch 150 18 = some (.laload, 19, 0) := by decide +kernel
theorem f150_19 : z_fetch 150 19 = some (.lreturn, 20, 0) := by decide +kernel
theorem f151_0 : z_fetch 151 0 = some (.iload 0, 1, 0) := by decide +kernel
theorem f151_1 : z_fetch 151 1 = some (.tableswitch 0 2 12 #[60, 64, 68, 72, 86, 98, 110, 122, 134, 150, 146], 60, 150) := by decide +kernel
theorem f151_60 : z_fetch 151 60 = some (.lload 1, 61, 0) := by decide +kernel
theorem f151_61 : z_fetch 151 61 = some (.lload 3, 62, 0) := by decide +kernel
theorem f151_62 : z_fetch 151 62 = some (.ladd, 63, 0) := by decide +kernel
theorem f151_63 : z_fetch 151 63 = some (.lreturn, 64, 0) := by decide +kernel
theorem f151_64 : z_fetch 151 64 = some (.lload 1, 65, 0) := by decide +kernel
theorem f151_65 : z_fetch 151 65 = some (.lload 3, 66, 0) := by decide +kernel
theorem f151_66 : z_fetch 151 66 = some (.lsub, 67, 0) := by decide +kernel
theorem f151_67 : z_fetch 151 67 = some (.lreturn, 68, 0) := by decide +kernel
theorem f151_68 : z_fetch 151 68 = some (.lload 1, 69, 0) := by decide +kernel
theorem f151_69 : z_fetch 151 69 = some (.lload 3, 70, 0) := by decide +kernel
theorem f151_70 : z_fetch 151 70 = some (.lmul, 71, 0) := by decide +kernel
theorem f151_71 : z_fetch 151 71 = some (.lreturn, 72, 0) := by decide +kernel
theorem f151_72 : z_fetch 151 72 = some (.lload 3, 73, 0) := by decide +kernel
theorem f151_73 : z_fetch 151 73 = some (.goto_w 0, 74, 0) := by decide +kernel
theorem f151_74 : z_fetch 151 74 = some (.lcmp, 75, 0) := by decide +kernel
theorem f151_75 : z_fetch 151 75 = some (.ifCond .ne 0, 78, 82) := by decide +kernel
theorem f151_78 : z_fetch 151 78 = some (.goto_w 0, 79, 0) := by decide +kernel
theorem f151_79 : z_fetch 151 79 = some (.goto 0, 82, 85) := by decide +kernel
theorem f151_82 : z_fetch 151 82 = some (.lload 1, 83, 0) := by decide +kernel
theorem f151_83 : z_fetch 151 83 = some (.lload 3, 84, 0) := by decide +kernel
theorem f151_84 : z_fetch 151 84 = some (.ldiv, 85, 0) := by decide +kernel
theorem f151_85 : z_fetch 151 85 = some (.lreturn, 86, 0) := by decide +kernel
theorem f151_86 : z_fetch 151 86 = some (.lload 1, 87, 0) := by decide +kernel
theorem f151_87 : z_fetch 151 87 = some (.lload 3, 88, 0) := by decide +kernel
theorem f151_88 : z_fetch 151 88 = some (.lcmp, 89, 0) := by decide +kernel
theorem f151_89 : z_fetch 151 89 = some (.ifCond .ge 0, 92, 96) := by decide +kernel
theorem f151_92 : z_fetch 151 92 = some (.goto_w 1, 93, 0) := by decide +kernel
theorem f151_93 : z_fetch 151 93 = some (.goto 0, 96, 97) := by decide +kernel
theorem f151_96 : z_fetch 151 96 = some (.goto_w 0, 97, 0) := by decide +kernel
theorem f151_97 : z_fetch 151 97 = some (.lreturn, 98, 0) := by decide +kernel
theorem f151_98 : z_fetch 151 98 = some (.lload 1, 99, 0) := by decide +kernel
theorem f151_99 : z_fetch 151 99 = some (.lload 3, 100, 0) := by decide +kernel
theorem f151_100 : z_fetch 151 100 = some (.lcmp, 101, 0) := by decide +kernel
theorem f151_101 : z_fetch 151 101 = some (.ifCond .gt 0, 104, 108) := by decide +kernel
theorem f151_104 : z_fetch 151 104 = some (.goto_w 1, 105, 0) := by decide +kernel
theorem f151_105 : z_fetch 151 105 = some (.goto 0, 108, 109) := by decide +kernel
theorem f151_108 : z_fetch 151 108 = some (.goto_w 0, 109, 0) := by decide +kernel
theorem f151_109 : z_fetch 151 109 = some (.lreturn, 110, 0) := by decide +kernel
theorem f151_110 : z_fetch 151 110 = some (.lload 1, 111, 0) := by decide +kernel
theorem f151_111 : z_fetch 151 111 = some (.lload 3, 112, 0) := by decide +kernel
theorem f151_112 : z_fetch 151 112 = some (.lcmp, 113, 0) := by decide +kernel
theorem f151_113 : z_fetch 151 113 = some (.ifCond .ne 0, 116, 120) := by decide +kernel
theorem f151_116 : z_fetch 151 116 = some (.goto_w 1, 117, 0) := by decide +kernel
theorem f151_117 : z_fetch 151 117 = some (.goto 0, 120, 121) := by decide +kernel
theorem f151_120 : z_fetch 151 120 = some (.goto_w 0, 121, 0) := by decide +kernel
theorem f151_121 : z_fetch 151 121 = some (.lreturn, 122, 0) := by decide +kernel
theorem f151_122 : z_fetch 151 122 = some (.lload 1, 123, 0) := by decide +kernel
theorem f151_123 : z_fetch 151 123 = some (.lload 3, 124, 0) := by decide +kernel
theorem f151_124 : z_fetch 151 124 = some (.lcmp, 125, 0) := by decide +kernel
theorem f151_125 : z_fetch 151 125 = some (.ifCond .lt 0, 128, 132) := by decide +kernel
theorem f151_128 : z_fetch 151 128 = some (.goto_w 1, 129, 0) := by decide +kernel
theorem f151_129 : z_fetch 151 129 = some (.goto 0, 132, 133) := by decide +kernel
theorem f151_132 : z_fetch 151 132 = some (.goto_w 0, 133, 0) := by decide +kernel
theorem f151_133 : z_fetch 151 133 = some (.lreturn, 134, 0) := by decide +kernel
theorem f151_134 : z_fetch 151 134 = some (.lload 1, 135, 0) := by decide +kernel
theorem f151_135 : z_fetch 151 135 = some (.lload 3, 136, 0) := by decide +kernel
theorem f151_136 : z_fetch 151 136 = some (.lcmp, 137, 0) := by decide +kernel
theorem f151_137 : z_fetch 151 137 = some (.ifCond .le 0, 140, 144) := by decide +kernel
theorem f151_140 : z_fetch 151 140 = some (.goto_w 1, 141, 0) := by decide +kernel
theorem f151_141 : z_fetch 151 141 = some (.goto 0, 144, 145) := by decide +kernel
theorem f151_144 : z_fetch 151 144 = some (.goto_w 0, 145, 0) := by decide +kernel
theorem f151_145 : z_fetch 151 145 = some (.lreturn, 146, 0) := by decide +kernel
theorem f151_146 : z_fetch 151 146 = some (.lload 1, 147, 0) := by decide +kernel
theorem f151_147 : z_fetch 151 147 = some (.lload 3, 148, 0) := by decide +kernel
theorem f151_148 : z_fetch 151 148 = some (.land, 149, 0) := by decide +kernel
theorem f151_149 : z_fetch 151 149 = some (.lreturn, 150, 0) := by decide +kernel
theorem f151_150 : z_fetch 151 150 = some (.lload 1, 151, 0) := by decide +kernel
theorem f151_151 : z_fetch 151 151 = some (.lload 3, 152, 0) := by decide +kernel
theorem f151_152 : z_fetch 151 152 = some (.lor, 153, 0) := by decide +kernel
theorem f151_153 : z_fetch 151 153 = some (.lreturn, 154, 0) := by decide +kernel
theorem f152_0 : z_fetch 152 0 = some (.aload 0, 1, 0) := by decide +kernel
theorem f152_1 : z_fetch 152 1 = some (.iconst 0, 2, 0) := by decide +kernel
theorem f152_2 : z_fetch 152 2 = some (.putfield 11, 5, 23) := by decide +kernel
theorem f152_5 : z_fetch 152 5 = some (.iload 2, 6, 0) := by decide +kernel
theorem f152_6 : z_fetch 152 6 = some (.istore 4, 8, 0) := by decide +kernel
theorem f152_8 : z_fetch 152 8 = some (.iload 4, 10, 0) := by decide +kernel
theorem f152_10 : z_fetch 152 10 = some (.iload 3, 11, 0) := by decide +kernel
theorem f152_11 : z_fetch 152 11 = some (.if_icmp .ge 0, 14, 135) := by decide +kernel
theorem f152_14 : z_fetch 152 14 = some (.aload 0, 15, 0) := by decide +kernel
theorem f152_15 : z_fetch 152 15 = some (.instanceof 11, 18, 3) := by decide +kernel
theorem f152_18 : z_fetch 152 18 = some (.iconst 400, 21, 0) := by decide +kernel
theorem f152_21 : z_fetch 152 21 = some (.iload 1, 22, 0) := by decide +kernel
theorem f152_22 : z_fetch 152 22 = some (.imul, 23, 0) := by decide +kernel
theorem f152_23 : z_fetch 152 23 = some (.iload 4, 25, 0) := by decide +kernel
theorem f152_25 : z_fetch 152 25 = some (.iadd, 26, 0) := by decide +kernel
theorem f152_26 : z_fetch 152 26 = some (.iaload, 27, 0) := by decide +kernel
theorem f152_27 : z_fetch 152 27 = some (.iconst 15, 29, 0) := by decide +kernel
theorem f152_29 : z_fetch 152 29 = some (.iand, 30, 0) := by decide +kernel
theorem f152_30 : z_fetch 152 30 = some (.istore 5, 32, 0) := by decide +kernel
theorem f152_32 : z_fetch 152 32 = some (.aload 0, 33, 0) := by decide +kernel
theorem f152_33 : z_fetch 152 33 = some (.instanceof 11, 36, 3) := by decide +kernel
theorem f152_36 : z_fetch 152 36 = some (.iconst 400, 39, 0) := by decide +kernel
theorem f152_39 : z_fetch 152 39 = some (.iload 1, 40, 0) := by decide +kernel
theorem f152_40 : z_fetch 152 40 = some (.imul, 41, 0) := by decide +kernel
theorem f152_41 : z_fetch 152 41 = some (.iload 4, 43, 0) := by decide +kernel
theorem f152_43 : z_fetch 152 43 = some (.iadd, 44, 0) := by decide +kernel
theorem f152_44 : z_fetch 152 44 = some (.iaload, 45, 0) := by decide +kernel
theorem f152_45 : z_fetch 152 45 = some (.iconst 4, 46, 0) := by decide +kernel
theorem f152_46 : z_fetch 152 46 = some (.ishr, 47, 0) := by decide +kernel
theorem f152_47 : z_fetch 152 47 = some (.istore 6, 49, 0) := by decide +kernel
theorem f152_49 : z_fetch 152 49 = some (.iload 5, 51, 0) := by decide +kernel
theorem f152_51 : z_fetch 152 51 = some (.ifCond .ne 0, 54, 64) := by decide +kernel
theorem f152_54 : z_fetch 152 54 = some (.aload 0, 55, 0) := by decide +kernel
theorem f152_55 : z_fetch 152 55 = some (.iload 6, 57, 0) := by decide +kernel
theorem f152_57 : z_fetch 152 57 = some (.i2l, 58, 0) := by decide +kernel
theorem f152_58 : z_fetch 152 58 = some (.invokevirtual 149, 61, 0) := by decide +kernel
theorem f152_61 : z_fetch 152 61 = some (.goto 0, 64, 129) := by decide +kernel
theorem f152_64 : z_fetch 152 64 = some (.iload 5, 66, 0) := by decide +kernel
theorem f152_66 : z_fetch 152 66 = some (.iconst 1, 67, 0) := by decide +kernel
theorem f152_67 : z_fetch 152 67 = some (.if_icmp .ne 0, 70, 84) := by decide +kernel
theorem f152_70 : z_fetch 152 70 = some (.aload 0, 71, 0) := by decide +kernel
theorem f152_71 : z_fetch 152 71 = some (.aload 0, 72, 0) := by decide +kernel
theorem f152_72 : z_fetch 152 72 = some (.instanceof 11, 75, 24) := by decide +kernel
theorem f152_75 : z_fetch 152 75 = some (.iload 6, 77, 0) := by decide +kernel
theorem f152_77 : z_fetch 152 77 = some (.laload, 78, 0) := by decide +kernel
theorem f152_78 : z_fetch 152 78 = some (.invokevirtual 149, 81, 0) := by decide +kernel
theorem f152_81 : z_fetch 152 81 = some (.goto 0, 84, 129) := by decide +kernel
theorem f152_84 : z_fetch 152 84 = some (.iload 5, 86, 0) := by decide +kernel
theorem f152_86 : z_fetch 152 86 = some (.iconst 11, 88, 0) := by decide +kernel
theorem f152_88 : z_fetch 152 88 = some (.if_icmp .ne 0, 91, 104) := by decide +kernel
theorem f152_91 : z_fetch 152 91 = some (.aload 0, 92, 0) := by decide +kernel
theorem f152_92 : z_fetch 152 92 = some (.goto_w 1, 93, 0) := by decide +kernel
theorem f152_93 : z_fetch 152 93 = some (.aload 0, 94, 0) := by decide +kernel
theorem f152_94 : z_fetch 152 94 = some (.invokevirtual 150, 97, 0) := by decide +kernel
theorem f152_97 : z_fetch 152 97 = some (.lsub, 98, 0) := by decide +kernel
theorem f152_98 : z_fetch 152 98 = some (.invokevirtual 149, 101, 0) := by decide +kernel
theorem f152_101 : z_fetch 152 101 = some (.goto 0, 104, 129) := by decide +kernel
theorem f152_104 : z_fetch 152 104 = some (.aload 0, 105, 0) := by decide +kernel
theorem f152_105 : z_fetch 152 105 = some (.invokevirtual 150, 108, 0) := by decide +kernel
theorem f152_108 : z_fetch 152 108 = some (.lstore 7, 110, 0) := by decide +kernel
theorem f152_110 : z_fetch 152 110 = some (.aload 0, 111, 0) := by decide +kernel
theorem f152_111 : z_fetch 152 111 = some (.invokevirtual 150, 114, 0) := by decide +kernel
theorem f152_114 : z_fetch 152 114 = some (.lstore 9, 116, 0) := by decide +kernel
theorem f152_116 : z_fetch 152 116 = some (.aload 0, 117, 0) := by decide +kernel
theorem f152_117 : z_fetch 152 117 = some (.iload 5, 119, 0) := by decide +kernel
theorem f152_119 : z_fetch 152 119 = some (.lload 9, 121, 0) := by decide +kernel
theorem f152_121 : z_fetch 152 121 = some (.lload 7, 123, 0) := by decide +kernel
theorem f152_123 : z_fetch 152 123 = some (.invokestatic 151, 126, 0) := by decide +kernel
theorem f152_126 : z_fetch 152 126 = some (.invokevirtual 149, 129, 0) := by decide +kernel
theorem f152_129 : z_fetch 152 129 = some (.iinc 4 1, 132, 0) := by decide +kernel
theorem f152_132 : z_fetch 152 132 = some (.goto 0, 135, 8) := by decide +kernel
theorem f152_135 : z_fetch 152 135 = some (.aload 0, 136, 0) := by decide +kernel
theorem f152_136 : z_fetch 152 136 = some (.invokevirtual 150, 139, 0) := by decide +kernel
theorem f152_139 : z_fetch 152 139 = some (.lreturn, 140, 0) := by decide +kernel
theorem f153_0 : z_fetch 153 0 = some (.iload 1, 1, 0) := by decide +kernel
theorem f153_1 : z_fetch 153 1 = some (.ifCond .lt 0, 4, 18) := by decide +kernel
theorem f153_4 : z_fetch 153 4 = some (.iload 1, 5, 0) := by decide +kernel
theorem f153_5 : z_fetch 153 5 = some (.aload 0, 6, 0) := by decide +kernel
theorem f153_6 : z_fetch 153 6 = some (.instanceof 11, 9, 25) := by decide +kernel
theorem f153_9 : z_fetch 153 9 = some (.iconst 0, 10, 0) := by decide +kernel
theorem f153_10 : z_fetch 153 10 = some (.iaload, 11, 0) := by decide +kernel
theorem f153_11 : z_fetch 153 11 = some (.if_icmp .ge 0, 14, 18) := by decide +kernel
theorem f153_14 : z_fetch 153 14 = some (.iconst 1, 15, 0) := by decide +kernel
theorem f153_15 : z_fetch 153 15 = some (.goto 0, 18, 19) := by decide +kernel
theorem f153_18 : z_fetch 153 18 = some (.iconst 0, 19, 0) := by decide +kernel
theorem f153_19 : z_fetch 153 19 = some (.ireturn, 20, 1) := by decide +kernel
theorem f154_0 : z_fetch 154 0 = some (.iload 1, 1, 0) := by decide +kernel
theorem f154_1 : z_fetch 154 1 = some (.ifCond .lt 0, 4, 18) := by decide +kernel
theorem f154_4 : z_fetch 154 4 = some (.iload 1, 5, 0) := by decide +kernel
theorem f154_5 : z_fetch 154 5 = some (.aload 0, 6, 0) := by decide +kernel
theorem f154_6 : z_fetch 154 6 = some (.instanceof 11, 9, 25) := by decide +kernel
theorem f154_9 : z_fetch 154 9 = some (.iconst 1, 10, 0) := by decide +kernel
theorem f154_10 : z_fetch 154 10 = some (.iaload, 11, 0) := by decide +kernel
theorem f154_11 : z_fetch 154 11 = some (.if_icmp .ge 0, 14, 18) := by decide +kernel
theorem f154_14 : z_fetch 154 14 = some (.iconst 1, 15, 0) := by decide +kernel
theorem f154_15 : z_fetch 154 15 = some (.goto 0, 18, 19) := by decide +kernel
theorem f154_18 : z_fetch 154 18 = some (.iconst 0, 19, 0) := by decide +kernel
theorem f154_19 : z_fetch 154 19 = some (.ireturn, 20, 1) := by decide +kernel
theorem f155_0 : z_fetch 155 0 = some (.aload 0, 1, 0) := by decide +kernel
theorem f155_1 : z_fetch 155 1 = some (.instanceof 11, 4, 25) := by decide +kernel
theorem f155_4 : z_fetch 155 4 = some (.iconst 8, 6, 0) := by decide +kernel
theorem f155_6 : z_fetch 155 6 = some (.iconst 6, 8, 0) := by decide +kernel
theorem f155_8 : z_fetch 155 8 = some (.iload 1, 9, 0) := by decide +kernel
theorem f155_9 : z_fetch 155 9 = some (.imul, 10, 0) := by decide +kernel
theorem f155_10 : z_fetch 155 10 = some (.iadd, 11, 0) := by decide +kernel
theorem f155_11 : z_fetch 155 11 = some (.iload 2, 12, 0) := by decide +kernel
theorem f155_12 : z_fetch 155 12 = some (.iadd, 13, 0) := by decide +kernel
theorem f155_13 : z_fetch 155 13 = some (.iaload, 14, 0) := by decide +kernel
theorem f155_14 : z_fetch 155 14 = some (.ireturn, 15, 0) := by decide +kernel
theorem f156_0 : z_fetch 156 0 = some (.aload 0, 1, 0) := by decide +kernel
theorem f156_1 : z_fetch 156 1 = some (.instanceof 11, 4, 25) := by decide +kernel
theorem f156_4 : z_fetch 156 4 = some (.iconst 56, 6, 0) := by decide +kernel
theorem f156_6 : z_fetch 156 6 = some (.iconst 3, 7, 0) := by decide +kernel
theorem f156_7 : z_fetch 156 7 = some (.iload 1, 8, 0) := by decide +kernel
theorem f156_8 : z_fetch 156 8 = some (.imul, 9, 0) := by decide +kernel
theorem f156_9 : z_fetch 156 9 = some (.iadd, 10, 0) := by decide +kernel
theorem f156_10 : z_fetch 156 10 = some (.iload 2, 11, 0) := by decide +kernel
theorem f156_11 : z_fetch 156 11 = some (.iadd, 12, 0) := by decide +kernel
theorem f156_12 : z_fetch 156 12 = some (.iaload, 13, 0) := by decide +kernel
theorem f156_13 : z_fetch 156 13 = some (.ireturn, 14, 0) := by decide +kernel
theorem f157_0 : z_fetch 157 0 = some (.aload 0, 1, 0) := by decide +kernel
theorem f157_1 : z_fetch 157 1 = some (.instanceof 11, 4, 25) := by decide +kernel
theorem f157_4 : z_fetch 157 4 = some (.iconst 3, 5, 0) := by decide +kernel
theorem f157_5 : z_fetch 157 5 = some (.iaload, 6, 0) := by decide +kernel
theorem f157_6 : z_fetch 157 6 = some (.aload 0, 7, 0) := by decide +kernel
theorem f157_7 : z_fetch 157 7 = some (.iload 1, 8, 0) := by decide +kernel
theorem f157_8 : z_fetch 157 8 = some (.iconst 2, 9, 0) := by decide +kernel
theorem f157_9 : z_fetch 157 9 = some (.invokevirtual 155, 12, 0) := by decide +kernel
theorem f157_12 : z_fetch 157 12 = some (.isub, 13, 0) := by decide +kernel
theorem f157_13 : z_fetch 157 13 = some (.aload 0, 14, 0) := by decide +kernel
theorem f157_14 : z_fetch 157 14 = some (.instanceof 11, 17, 25) := by decide +kernel
theorem f157_17 : z_fetch 157 17 = some (.iconst 7, 19, 0) := by decide +kernel
theorem f157_19 : z_fetch 157 19 = some (.iaload, 20, 0) := by decide +kernel
theorem f157_20 : z_fetch 157 20 = some (.if_icmp .le 0, 23, 27) := by decide +kernel
theorem f157_23 : z_fetch 157 23 = some (.iconst 1, 24, 0) := by decide +kernel
theorem f157_24 : z_fetch 157 24 = some (.goto 0, 27, 28) := by decide +kernel
theorem f157_27 : z_fetch 157 27 = some (.iconst 0, 28, 0) := by decide +kernel
theorem f157_28 : z_fetch 157 28 = some (.ireturn, 29, 1) := by decide +kernel
theorem f158_0 : z_fetch 158 0 = some (.iconst 0, 1, 0) := by decide +kernel
theorem f158_1 : z_fetch 158 1 = some (.istore 1, 2, 0) := by decide +kernel
theorem f158_2 : z_fetch 158 2 = some (.iconst 0, 3, 0) := by decide +kernel
theorem f158_3 : z_fetch 158 3 = some (.istore 2, 4, 0) := by decide +kernel
theorem f158_4 : z_fetch 158 4 = some (.iload 2, 5, 0) := by decide +kernel
theorem f158_5 : z_fetch 158 5 = some (.aload 0, 6, 0) := by decide +kernel
theorem f158_6 : z_fetch 158 6 = some (.instanceof 11, 9, 25) := by decide +kernel
theorem f158_9 : z_fetch 158 9 = some (.iconst 1, 10, 0) := by decide +kernel
theorem f158_10 : z_fetch 158 10 = some (.iaload, 11, 0) := by decide +kernel
theorem f158_11 : z_fetch 158 11 = some (.if_icmp .ge 0, 14, 38) := by decide +kernel
theorem f158_14 : z_fetch 158 14 = some (.iload 1, 15, 0) := by decide +kernel
theorem f158_15 : z_fetch 158 15 = some (.aload 0, 16, 0) := by decide +kernel
theorem f158_16 : z_fetch 158 16 = some (.iload 2, 17, 0) := by decide +kernel
theorem f158_17 : z_fetch 158 17 = some (.invokevirtual 157, 20, 0) := by decide +kernel
theorem f158_20 : z_fetch 158 20 = some (.ifCond .eq 0, 23, 29) := by decide +kernel
theorem f158_23 : z_fetch 158 23 = some (.iconst 1, 24, 0) := by decide +kernel
theorem f158_24 : z_fetch 158 24 = some (.iload 2, 25, 0) := by decide +kernel
theorem f158_25 : z_fetch 158 25 = some (.ishl, 26, 0) := by decide +kernel
theorem f158_26 : z_fetch 158 26 = some (.goto 0, 29, 30) := by decide +kernel
theorem f158_29 : z_fetch 158 29 = some (.iconst 0, 30, 0) := by decide +kernel
theorem f158_30 : z_fetch 158 30 = some (.ior, 31, 0) := by decide +kernel
theorem f158_31 : z_fetch 158 31 = some (.istore 1, 32, 0) := by decide +kernel
theorem f158_32 : z_fetch 158 32 = some (.iinc 2 1, 35, 0) := by decide +kernel
theorem f158_35 : z_fetch 158 35 = some (.goto 0, 38, 4) := by decide +kernel
theorem f158_38 : z_fetch 158 38 = some (.iload 1, 39, 0) := by decide +kernel
theorem f158_39 : z_fetch 158 39 = some (.ireturn, 40, 0) := by decide +kernel
theorem f159_0 : z_fetch 159 0 = some (.iconst 0, 1, 0) := by decide +kernel
theorem f159_1 : z_fetch 159 1 = some (.istore 2, 2, 0) := by decide +kernel
theorem f159_2 : z_fetch 159 2 = some (.iconst 0, 3, 0) := by decide +kernel
theorem f159_3 : z_fetch 159 3 = some (.istore 3, 4, 0) := by decide +kernel
theorem f159_4 : z_fetch 159 4 = some (.iload 3, 5, 0) := by decide +kernel
theorem f159_5 : z_fetch 159 5 = some (.aload 0, 6, 0) := by decide +kernel
theorem f159_6 : z_fetch 159 6 = some (.instanceof 11, 9, 25) := by decide +kernel
theorem f159_9 : z_fetch 159 9 = some (.iconst 1, 10, 0) := by decide +kernel
theorem f159_10 : z_fetch 159 10 = some (.iaload, 11, 0) := by decide +kernel
theorem f159_11 : z_fetch 159 11 = some (.if_icmp .ge 0, 14, 40) := by decide +kernel
theorem f159_14 : z_fetch 159 14 = some (.iload 2, 15, 0) := by decide +kernel
theorem f159_15 : z_fetch 159 15 = some (.aload 0, 16, 0) := by decide +kernel
theorem f159_16 : z_fetch 159 16 = some (.iload 3, 17, 0) := by decide +kernel
theorem f159_17 : z_fetch 159 17 = some (.iconst 1, 18, 0) := by decide +kernel
theorem f159_18 : z_fetch 159 18 = some (.invokevirtual 155, 21, 0) := by decide +kernel
theorem f159_21 : z_fetch 159 21 = some (.iload 1, 22, 0) := by decide +kernel
theorem f159_22 : z_fetch 159 22 = some (.if_icmp .ne 0, 25, 31) := by decide +kernel
theorem f159_25 : z_fetch 159 25 = some (.iconst 1, 26, 0) := by decide +kernel
theorem f159_26 : z_fetch 159 26 = some (.iload 3, 27, 0) := by decide +kernel
theorem f159_27 : z_fetch 159 27 = some (.ishl, 28, 0) := by decide +kernel
theorem f159_28 : z_fetch 159 28 = some (.goto 0, 31, 32) := by decide +kernel
theorem f159_31 : z_fetch 159 31 = some (.iconst 0, 32, 0) := by decide +kernel
theorem f159_32 : z_fetch 159 32 = some (.ior, 33, 0) := by decide +kernel
theorem f159_33 : z_fetch 159 33 = some (.istore 2, 34, 0) := by decide +kernel
theorem f159_34 : z_fetch 159 34 = some (.iinc 3 1, 37, 0) := by decide +kernel
theorem f159_37 : z_fetch 159 37 = some (.goto 0, 40, 4) := by decide +kernel
theorem f159_40 : z_fetch 159 40 = some (.iload 2, 41, 0) := by decide +kernel
theorem f159_41 : z_fetch 159 41 = some (.ireturn, 42, 0) := by decide +kernel
theorem f160_0 : z_fetch 160 0 = some (.iconst 0, 1, 0) := by decide +kernel
theorem f160_1 : z_fetch 160 1 = some (.istore 2, 2, 0) := by decide +kernel
theorem f160_2 : z_fetch 160 2 = some (.iconst 0, 3, 0) := by decide +kernel
theorem f160_3 : z_fetch 160 3 = some (.istore 3, 4, 0) := by decide +kernel
theorem f160_4 : z_fetch 160 4 = some (.iload 3, 5, 0) := by decide +kernel
theorem f160_5 : z_fetch 160 5 = some (.aload 0, 6, 0) := by decide +kernel
theorem f160_6 : z_fetch 160 6 = some (.instanceof 11, 9, 25) := by decide +kernel
theorem f160_9 : z_fetch 160 9 = some (.iconst 2, 10, 0) := by decide +kernel
theorem f160_10 : z_fetch 160 10 = some (.iaload, 11, 0) := by decide +kernel
theorem f160_11 : z_fetch 160 11 = some (.if_icmp .ge 0, 14, 80) := by decide +kernel
theorem f160_14 : z_fetch 160 14 = some (.aload 0, 15, 0) := by decide +kernel
theorem f160_15 : z_fetch 160 15 = some (.iload 3, 16, 0) := by decide +kernel
theorem f160_16 : z_fetch 160 16 = some (.iconst 0, 17, 0) := by decide +kernel
theorem f160_17 : z_fetch 160 17 = some (.invokevirtual 156, 20, 0) := by decide +kernel
theorem f160_20 : z_fetch 160 20 = some (.aload 0, 21, 0) := by decide +kernel
theorem f160_21 : z_fetch 160 21 = some (.instanceof 11, 24, 25) := by decide +kernel
theorem f160_24 : z_fetch 160 24 = some (.iconst 3, 25, 0) := by decide +kernel
theorem f160_25 : z_fetch 160 25 = some (.iaload, 26, 0) := by decide +kernel
theorem f160_26 : z_fetch 160 26 = some (.if_icmp .eq 0, 29, 32) := by decide +kernel
theorem f160_29 : z_fetch 160 29 = some (.goto 0, 32, 74) := by decide +kernel
theorem f160_32 : z_fetch 160 32 = some (.aload 0, 33, 0) := by decide +kernel
theorem f160_33 : z_fetch 160 33 = some (.iload 3, 34, 0) := by decide +kernel
theorem f160_34 : z_fetch 160 34 = some (.iconst 1, 35, 0) := by decide +kernel
theorem f160_35 : z_fetch 160 35 = some (.invokevirtual 156, 38, 0) := by decide +kernel
theorem f160_38 : z_fetch 160 38 = some (.iload 1, 39, 0) := by decide +kernel
theorem f160_39 : z_fetch 160 39 = some (.if_icmp .ne 0, 42, 53) := by decide +kernel
theorem f160_42 : z_fetch 160 42 = some (.iload 2, 43, 0) := by decide +kernel
theorem f160_43 : z_fetch 160 43 = some (.iconst 1, 44, 0) := by decide +kernel
theorem f160_44 : z_fetch 160 44 = some (.aload 0, 45, 0) := by decide +kernel
theorem f160_45 : z_fetch 160 45 = some (.iload 3, 46, 0) := by decide +kernel
theorem f160_46 : z_fetch 160 46 = some (.iconst 2, 47, 0) := by decide +kernel
theorem f160_47 : z_fetch 160 47 = some (.invokevirtual 156, 50, 0) := by decide +kernel
theorem f160_50 : z_fetch 160 50 = some (.ishl, 51, 0) := by decide +kernel
theorem f160_51 : z_fetch 160 51 = some (.ior, 52, 0) := by decide +kernel
theorem f160_52 : z_fetch 160 52 = some (.istore 2, 53, 0) := by decide +kernel
theorem f160_53 : z_fetch 160 53 = some (.aload 0, 54, 0) := by decide +kernel
theorem f160_54 : z_fetch 160 54 = some (.iload 3, 55, 0) := by decide +kernel
theorem f160_55 : z_fetch 160 55 = some (.iconst 2, 56, 0) := by decide +kernel
theorem f160_56 : z_fetch 160 56 = some (.invokevirtual 156, 59, 0) := by decide +kernel
theorem f160_59 : z_fetch 160 59 = some (.iload 1, 60, 0) := by decide +kernel
theorem f160_60 : z_fetch 160 60 = some (.if_icmp .ne 0, 63, 74) := by decide +kernel
theorem f160_63 : z_fetch 160 63 = some (.iload 2, 64, 0) := by decide +kernel
theorem f160_64 : z_fetch 160 64 = some (.iconst 1, 65, 0) := by decide +kernel
theorem f160_65 : z_fetch 160 65 = some (.aload 0, 66, 0) := by decide +kernel
theorem f160_66 : z_fetch 160 66 = some (.iload 3, 67, 0) := by decide +kernel
theorem f160_67 : z_fetch 160 67 = some (.iconst 1, 68, 0) := by decide +kernel
theorem f160_68 : z_fetch 160 68 = some (.invokevirtual 156, 71, 0) := by decide +kernel
theorem f160_71 : z_fetch 160 71 = some (.ishl, 72, 0) := by decide +kernel
theorem f160_72 : z_fetch 160 72 = some (.ior, 73, 0) := by decide +kernel
theorem f160_73 : z_fetch 160 73 = some (.istore 2, 74, 0) := by decide +kernel
theorem f160_74 : z_fetch 160 74 = some (.iinc 3 1, 77, 0) := by decide +kernel
theorem f160_77 : z_fetch 160 77 = some (.goto 0, 80, 4) := by decide +kernel
theorem f160_80 : z_fetch 160 80 = some (.iload 2, 81, 0) := by decide +kernel
theorem f160_81 : z_fetch 160 81 = some (.ireturn, 82, 0) := by decide +kernel
theorem f161_0 : z_fetch 161 0 = some (.iload 1, 1, 0) := by decide +kernel
theorem f161_1 : z_fetch 161 1 = some (.iconst (-1), 2, 0) := by decide +kernel
theorem f161_2 : z_fetch 161 2 = some (.if_icmp .eq 0, 5, 16) := by decide +kernel
theorem f161_5 : z_fetch 161 5 = some (.aload 0, 6, 0) := by decide +kernel
theorem f161_6 : z_fetch 161 6 = some (.iload 1, 7, 0) := by decide +kernel
theorem f161_7 : z_fetch 161 7 = some (.invokevirtual 148, 10, 0) := by decide +kernel
theorem f161_10 : z_fetch 161 10 = some (.ifCond .ne 0, 13, 16) := by decide +kernel
theorem f161_13 : z_fetch 161 13 = some (.iconst (-2), 15, 0) := by decide +kernel
theorem f161_15 : z_fetch 161 15 = some (.ireturn, 16, 0) := by decide +kernel
theorem f161_16 : z_fetch 161 16 = some (.aload 0, 17, 0) := by decide +kernel
theorem f161_17 : z_fetch 161 17 = some (.instanceof 11, 20, 25) := by decide +kernel
theorem f161_20 : z_fetch 161 20 = some (.iconst 6, 22, 0) := by decide +kernel
theorem f161_22 : z_fetch 161 22 = some (.iaload, 23, 0) := by decide +kernel
theorem f161_23 : z_fetch 161 23 = some (.istore 2, 24, 0) := by decide +kernel
theorem f161_24 : z_fetch 161 24 = some (.aload 0, 25, 0) := by decide +kernel
theorem f161_25 : z_fetch 161 25 = some (.instanceof 11, 28, 25) := by decide +kernel
theorem f161_28 : z_fetch 161 28 = some (.iconst 6, 30, 0) := by decide +kernel
theorem f161_30 : z_fetch 161 30 = some (.iload 1, 31, 0) := by decide +kernel
theorem f161_31 : z_fetch 161 31 = some (.iastore, 32, 0) := by decide +kernel
theorem f161_32 : z_fetch 161 32 = some (.iload 2, 33, 0) := by decide +kernel
theorem f161_33 : z_fetch 161 33 = some (.ireturn, 34, 0) := by decide +kernel
theorem f162_0 : z_fetch 162 0 = some (.aload 0, 1, 0) := by decide +kernel
theorem f162_1 : z_fetch 162 1 = some (.iload 1, 2, 0) := by decide +kernel
theorem f162_2 : z_fetch 162 2 = some (.invokevirtual 154, 5, 0) := by decide +kernel
theorem f162_5 : z_fetch 162 5 = some (.ifCond .eq 0, 8, 20) := by decide +kernel
theorem f162_8 : z_fetch 162 8 = some (.iload 2, 9, 0) := by decide +kernel
theorem f162_9 : z_fetch 162 9 = some (.i2l, 10, 0) := by decide +kernel
theorem f162_10 : z_fetch 162 10 = some (.goto_w 0, 11, 0) := by decide +kernel
theorem f162_11 : z_fetch 162 11 = some (.goto_w 6, 14, 0) := by decide +kernel
theorem f162_14 : z_fetch 162 14 = some (.invokestatic 110, 17, 0) := by decide +kernel
theorem f162_17 : z_fetch 162 17 = some (.ifCond .ne 0, 20, 22) := by decide +kernel
theorem f162_20 : z_fetch 162 20 = some (.iconst (-1), 21, 0) := by decide +kernel
theorem f162_21 : z_fetch 162 21 = some (.ireturn, 22, 0) := by decide +kernel
theorem f162_22 : z_fetch 162 22 = some (.iload 2, 23, 0) := by decide +kernel
theorem f162_23 : z_fetch 162 23 = some (.iconst 5, 24, 0) := by decide +kernel
theorem f162_24 : z_fetch 162 24 = some (.if_icmp .ge 0, 27, 36) := by decide +kernel
theorem f162_27 : z_fetch 162 27 = some (.aload 0, 28, 0) := by decide +kernel
theorem f162_28 : z_fetch 162 28 = some (.iload 1, 29, 0) := by decide +kernel
theorem f162_29 : z_fetch 162 29 = some (.iload 2, 30, 0) := by decide +kernel
theorem f162_30 : z_fetch 162 30 = some (.invokevirtual 155, 33, 0) := by decide +kernel
theorem f162_33 : z_fetch 162 33 = some (.goto 0, 36, 63) := by decide +kernel
theorem f162_36 : z_fetch 162 36 = some (.iload 2, 37, 0) := by decide +kernel
theorem f162_37 : z_fetch 162 37 = some (.iconst 5, 38, 0) := by decide +kernel
theorem f162_38 : z_fetch 162 38 = some (.if_icmp .ne 0, 41, 57) := by decide +kernel
theorem f162_41 : z_fetch 162 41 = some (.aload 0, 42, 0) := by decide +kernel
theorem f162_42 : z_fetch 162 42 = some (.iload 1, 43, 0) := by decide +kernel
theorem f162_43 : z_fetch 162 43 = some (.invokevirtual 157, 46, 0) := by decide +kernel
theorem f162_46 : z_fetch 162 46 = some (.ifCond .eq 0, 49, 53) := by decide +kernel
theorem f162_49 : z_fetch 162 49 = some (.iconst 1, 50, 0) := by decide +kernel
theorem f162_50 : z_fetch 162 50 = some (.goto 0, 53, 63) := by decide +kernel
theorem f162_53 : z_fetch 162 53 = some (.iconst 0, 54, 0) := by decide +kernel
theorem f162_54 : z_fetch 162 54 = some (.goto 0, 57, 63) := by decide +kernel
theorem f162_57 : z_fetch 162 57 = some (.aload 0, 58, 0) := by decide +kernel
theorem f162_58 : z_fetch 162 58 = some (.iload 1, 59, 0) := by decide +kernel
theorem f162_59 : z_fetch 162 59 = some (.iconst 5, 60, 0) := by decide +kernel
theorem f162_60 : z_fetch 162 60 = some (.invokevirtual 155, 63, 0) := by decide +kernel
theorem f162_63 : z_fetch 162 63 = some (.ireturn, 64, 0) := by decide +kernel
theorem f163_0 : z_fetch 163 0 = some (.iload 1, 1, 0) := by decide +kernel
theorem f163_1 : z_fetch 163 1 = some (.i2l, 2, 0) := by decide +kernel
theorem f163_2 : z_fetch 163 2 = some (.goto_w 0, 3, 0) := by decide +kernel
theorem f163_3 : z_fetch 163 3 = some (.aload 0, 4, 0) := by decide +kernel
theorem f163_4 : z_fetch 163 4 = some (.instanceof 11, 7, 25) := by decide +kernel
theorem f163_7 : z_fetch 163 7 = some (.iconst 2, 8, 0) := by decide +kernel
theorem f163_8 : z_fetch 163 8 = some (.iaload, 9, 0) := by decide +kernel
theorem f163_9 : z_fetch 163 9 = some (.iconst 1, 10, 0) := by decide +kernel
theorem f163_10 : z_fetch 163 10 = some (.isub, 11, 0) := by decide +kernel
theorem f163_11 : z_fetch 163 11 = some (.i2l, 12, 0) := by decide +kernel
theorem f163_12 : z_fetch 163 12 = some (.invokestatic 110, 15, 0) := by decide +kernel
theorem f163_15 : z_fetch 163 15 = some (.ifCond .eq 0, 18, 39) := by decide +kernel
theorem f163_18 : z_fetch 163 18 = some (.iload 2, 19, 0) := by decide +kernel
theorem f163_19 : z_fetch 163 19 = some (.i2l, 20, 0) := by decide +kernel
theorem f163_20 : z_fetch 163 20 = some (.goto_w 0, 21, 0) := by decide +kernel
theorem f163_21 : z_fetch 163 21 = some (.goto_w 2, 24, 0) := by decide +kernel
theorem f163_24 : z_fetch 163 24 = some (.invokestatic 110, 27, 0) := by decide +kernel
theorem f163_27 : z_fetch 163 27 = some (.ifCond .eq 0, 30, 39) := by decide +kernel
theorem f163_30 : z_fetch 163 30 = some (.aload 0, 31, 0) := by decide +kernel
theorem f163_31 : z_fetch 163 31 = some (.iload 1, 32, 0) := by decide +kernel
theorem f163_32 : z_fetch 163 32 = some (.iload 2, 33, 0) := by decide +kernel
theorem f163_33 : z_fetch 163 33 = some (.invokevirtual 156, 36, 0) := by decide +kernel
theorem f163_36 : z_fetch 163 36 = some (.goto 0, 39, 40) := by decide +kernel
theorem f163_39 : z_fetch 163 39 = some (.iconst (-1), 40, 0) := by decide +kernel
theorem f163_40 : z_fetch 163 40 = some (.ireturn, 41, 0) := by decide +kernel
theorem f164_0 : z_fetch 164 0 = some (.aload 0, 1, 0) := by decide +kernel
theorem f164_1 : z_fetch 164 1 = some (.iload 1, 2, 0) := by decide +kernel
theorem f164_2 : z_fetch 164 2 = some (.invokevirtual 153, 5, 0) := by decide +kernel
theorem f164_5 : z_fetch 164 5 = some (.ifCond .eq 0, 8, 20) := by decide +kernel
theorem f164_8 : z_fetch 164 8 = some (.iload 2, 9, 0) := by decide +kernel
theorem f164_9 : z_fetch 164 9 = some (.i2l, 10, 0) := by decide +kernel
theorem f164_10 : z_fetch 164 10 = some (.goto_w 0, 11, 0) := by decide +kernel
theorem f164_11 : z_fetch 164 11 = some (.goto_w 2, 14, 0) := by decide +kernel
theorem f164_14 : z_fetch 164 14 = some (.invokestatic 110, 17, 0) := by decide +kernel
theorem f164_17 : z_fetch 164 17 = some (.ifCond .ne 0, 20, 22) := by decide +kernel
theorem f164_20 : z_fetch 164 20 = some (.iconst (-1), 21, 0) := by decide +kernel
theorem f164_21 : z_fetch 164 21 = some (.ireturn, 22, 0) := by decide +kernel
theorem f164_22 : z_fetch 164 22 = some (.iload 2, 23, 0) := by decide +kernel
theorem f164_23 : z_fetch 164 23 = some (.ifCond .ne 0, 26, 32) := by decide +kernel
theorem f164_26 : z_fetch 164 26 = some (.aload 0, 27, 0) := by decide +kernel
theorem f164_27 : z_fetch 164 27 = some (.iload 1, 28, 0) := by decide +kernel
theorem f164_28 : z_fetch 164 28 = some (.invokevirtual 159, 31, 0) := by decide +kernel
theorem f164_31 : z_fetch 164 31 = some (.ireturn, 32, 0) := by decide +kernel
theorem f164_32 : z_fetch 164 32 = some (.iload 2, 33, 0) := by decide +kernel
theorem f164_33 : z_fetch 164 33 = some (.iconst 2, 34, 0) := by decide +kernel
theorem f164_34 : z_fetch 164 34 = some (.if_icmp .ne 0, 37, 43) := by decide +kernel
theorem f164_37 : z_fetch 164 37 = some (.aload 0, 38, 0) := by decide +kernel
theorem f164_38 : z_fetch 164 38 = some (.iload 1, 39, 0) := by decide +kernel
theorem f164_39 : z_fetch 164 39 = some (.invokevirtual 160, 42, 0) := by decide +kernel
theorem f164_42 : z_fetch 164 42 = some (.ireturn, 43, 0) := by decide +kernel
theorem f164_43 : z_fetch 164 43 = some (.iconst 0, 44, 0) := by decide +kernel
theorem f164_44 : z_fetch 164 44 = some (.istore 3, 45, 0) := by decide +kernel
theorem f164_45 : z_fetch 164 45 = some (.iconst 0, 46, 0) := by decide +kernel
theorem f164_46 : z_fetch 164 46 = some (.istore 4, 48, 0) := by decide +kernel
theorem f164_48 : z_fetch 164 48 = some (.iload 4, 50, 0) := by decide +kernel
theorem f164_50 : z_fetch 164 50 = some (.aload 0, 51, 0) := by decide +kernel
theorem f164_51 : z_fetch 164 51 = some (.instanceof 11, 54, 25) := by decide +kernel
theorem f164_54 : z_fetch 164 54 = some (.iconst 1, 55, 0) := by decide +kernel
theorem f164_55 : z_fetch 164 55 = some (.iaload, 56, 0) := by decide +kernel
theorem f164_56 : z_fetch 164 56 = some (.if_icmp .ge 0, 59, 99) := by decide +kernel
theorem f164_59 : z_fetch 164 59 = some (.iload 3, 60, 0) := by decide +kernel
theorem f164_60 : z_fetch 164 60 = some (.aload 0, 61, 0) := by decide +kernel
theorem f164_61 : z_fetch 164 61 = some (.iload 4, 63, 0) := by decide +kernel
theorem f164_63 : z_fetch 164 63 = some (.iconst 1, 64, 0) := by decide +kernel
theorem f164_64 : z_fetch 164 64 = some (.invokevirtual 155, 67, 0) := by decide +kernel
theorem f164_67 : z_fetch 164 67 = some (.iload 1, 68, 0) := by decide +kernel
theorem f164_68 : z_fetch 164 68 = some (.if_icmp .ne 0, 71, 90) := by decide +kernel
theorem f164_71 : z_fetch 164 71 = some (.aload 0, 72, 0) := by decide +kernel
theorem f164_72 : z_fetch 164 72 = some (.iload 4, 74, 0) := by decide +kernel
theorem f164_74 : z_fetch 164 74 = some (.invokevirtual 157, 77, 0) := by decide +kernel
theorem f164_77 : z_fetch 164 77 = some (.ifCond .ne 0, 80, 90) := by decide +kernel
theorem f164_80 : z_fetch 164 80 = some (.aload 0, 81, 0) := by decide +kernel
theorem f164_81 : z_fetch 164 81 = some (.iload 4, 83, 0) := by decide +kernel
theorem f164_83 : z_fetch 164 83 = some (.iconst 0, 84, 0) := by decide +kernel
theorem f164_84 : z_fetch 164 84 = some (.invokevirtual 155, 87, 0) := by decide +kernel
theorem f164_87 : z_fetch 164 87 = some (.goto 0, 90, 91) := by decide +kernel
theorem f164_90 : z_fetch 164 90 = some (.iconst 0, 91, 0) := by decide +kernel
theorem f164_91 : z_fetch 164 91 = some (.iadd, 92, 0) := by decide +kernel
theorem f164_92 : z_fetch 164 92 = some (.istore 3, 93, 0) := by decide +kernel
theorem f164_93 : z_fetch 164 93 = some (.iinc 4 1, 96, 0) := by decide +kernel
theorem f164_96 : z_fetch 164 96 = some (.goto 0, 99, 48) := by decide +kernel
theorem f164_99 : z_fetch 164 99 = some (.iload 3, 100, 0) := by decide +kernel
theorem f164_100 : z_fetch 164 100 = some (.ireturn, 101, 0) := by decide +kernel
theorem f165_0 : z_fetch 165 0 = some (.aload 0, 1, 0) := by decide +kernel
theorem f165_1 : z_fetch 165 1 = some (.instanceof 11, 4, 24) := by decide +kernel
theorem f165_4 : z_fetch 165 4 = some (.iconst 0, 5, 0) := by decide +kernel
theorem f165_5 : z_fetch 165 5 = some (.iload 1, 6, 0) := by decide +kernel
theorem f165_6 : z_fetch 165 6 = some (.i2l, 7, 0) := by decide +kernel
theorem f165_7 : z_fetch 165 7 = some (.lastore, 8, 0) := by decide +kernel
theorem f165_8 : z_fetch 165 8 = some (.aload 0, 9, 0) := by decide +kernel
theorem f165_9 : z_fetch 165 9 = some (.instanceof 11, 12, 24) := by decide +kernel
theorem f165_12 : z_fetch 165 12 = some (.iconst 1, 13, 0) := by decide +kernel
theorem f165_13 : z_fetch 165 13 = some (.iload 2, 14, 0) := by decide +kernel
theorem f165_14 : z_fetch 165 14 = some (.i2l, 15, 0) := by decide +kernel
theorem f165_15 : z_fetch 165 15 = some (.lastore, 16, 0) := by decide +kernel
theorem f165_16 : z_fetch 165 16 = some (.aload 0, 17, 0) := by decide +kernel
theorem f165_17 : z_fetch 165 17 = some (.instanceof 11, 20, 24) := by decide +kernel
theorem f165_20 : z_fetch 165 20 = some (.iconst 2, 21, 0) := by decide +kernel
theorem f165_21 : z_fetch 165 21 = some (.iload 3, 22, 0) := by decide +kernel
theorem f165_22 : z_fetch 165 22 = some (.i2l, 23, 0) := by decide +kernel
theorem f165_23 : z_fetch 165 23 = some (.lastore, 24, 0) := by decide +kernel
theorem f165_24 : z_fetch 165 24 = some (.aload 0, 25, 0) := by decide +kernel
theorem f165_25 : z_fetch 165 25 = some (.instanceof 11, 28, 24) := by decide +kernel
theorem f165_28 : z_fetch 165 28 = some (.iconst 3, 29, 0) := by decide +kernel
theorem f165_29 : z_fetch 165 29 = some (.iload 4, 31, 0) := by decide +kernel
theorem f165_31 : z_fetch 165 31 = some (.invokestatic 112, 34, 0) := by decide +kernel
theorem f165_34 : z_fetch 165 34 = some (.i2l, 35, 0) := by decide +kernel
theorem f165_35 : z_fetch 165 35 = some (.lastore, 36, 0) := by decide +kernel
theorem f165_36 : z_fetch 165 36 = some (.aload 0, 37, 0) := by decide +kernel
theorem f165_37 : z_fetch 165 37 = some (.instanceof 11, 40, 24) := by decide +kernel
theorem f165_40 : z_fetch 165 40 = some (.iconst 4, 41, 0) := by decide +kernel
theorem f165_41 : z_fetch 165 41 = some (.iload 5, 43, 0) := by decide +kernel
theorem f165_43 : z_fetch 165 43 = some (.ifCond .eq 0, 46, 50) := by decide +kernel
theorem f165_46 : z_fetch 165 46 = some (.goto_w 1, 47, 0) := by decide +kernel
theorem f165_47 : z_fetch 165 47 = some (.goto 0, 50, 51) := by decide +kernel
theorem f165_50 : z_fetch 165 50 = some (.goto_w 0, 51, 0) := by decide +kernel
theorem f165_51 : z_fetch 165 51 = some (.lastore, 52, 0) := by decide +kernel
theorem f165_52 : z_fetch 165 52 = some (.aload 0, 53, 0) := by decide +kernel
theorem f165_53 : z_fetch 165 53 = some (.instanceof 11, 56, 24) := by decide +kernel
theorem f165_56 : z_fetch 165 56 = some (.iconst 5, 57, 0) := by decide +kernel
theorem f165_57 : z_fetch 165 57 = some (.aload 0, 58, 0) := by decide +kernel
theorem f165_58 : z_fetch 165 58 = some (.iload 6, 60, 0) := by decide +kernel
theorem f165_60 : z_fetch 165 60 = some (.invokevirtual 159, 63, 0) := by decide +kernel
theorem f165_63 : z_fetch 165 63 = some (.invokestatic 112, 66, 0) := by decide +kernel
theorem f165_66 : z_fetch 165 66 = some (.i2l, 67, 0) := by decide +kernel
theorem f165_67 : z_fetch 165 67 = some (.lastore, 68, 0) := by decide +kernel
theorem f165_68 : z_fetch 165 68 = some (.aload 0, 69, 0) := by decide +kernel
theorem f165_69 : z_fetch 165 69 = some (.instanceof 11, 72, 24) := by decide +kernel
theorem f165_72 : z_fetch 165 72 = some (.iconst 6, 74, 0) := by decide +kernel
theorem f165_74 : z_fetch 165 74 = some (.iload 6, 76, 0) := by decide +kernel
theorem f165_76 : z_fetch 165 76 = some (.i2l, 77, 0) := by decide +kernel
theorem f165_77 : z_fetch 165 77 = some (.lastore, 78, 0) := by decide +kernel
theorem f165_78 : z_fetch 165 78 = some (.aload 0, 79, 0) := by decide +kernel
theorem f165_79 : z_fetch 165 79 = some (.instanceof 11, 82, 24) := by decide +kernel
theorem f165_82 : z_fetch 165 82 = some (.iconst 7, 84, 0) := by decide +kernel
theorem f165_84 : z_fetch 165 84 = some (.iload 7, 86, 0) := by decide +kernel
theorem f165_86 : z_fetch 165 86 = some (.i2l, 87, 0) := by decide +kernel
theorem f165_87 : z_fetch 165 87 = some (.lastore, 88, 0) := by decide +kernel
theorem f165_88 : z_fetch 165 88 = some (.aload 0, 89, 0) := by decide +kernel
theorem f165_89 : z_fetch 165 89 = some (.instanceof 11, 92, 24) := by decide +kernel
theorem f165_92 : z_fetch 165 92 = some (.iconst 8, 94, 0) := by decide +kernel
theorem f165_94 : z_fetch 165 94 = some (.iload 8, 96, 0) := by decide +kernel
theorem f165_96 : z_fetch 165 96 = some (.i2l, 97, 0) := by decide +kernel
theorem f165_97 : z_fetch 165 97 = some (.lastore, 98, 0) := by decide +kernel
theorem f165_98 : z_fetch 165 98 = some (.return_, 99, 0) := by decide +kernel
theorem f166_0 : z_fetch 166 0 = some (.iconst 0, 1, 0) := by decide +kernel
theorem f166_1 : z_fetch 166 1 = some (.istore 3, 2, 0) := by decide +kernel
theorem f166_2 : z_fetch 166 2 = some (.iload 3, 3, 0) := by decide +kernel
theorem f166_3 : z_fetch 166 3 = some (.aload 0, 4, 0) := by decide +kernel
theorem f166_4 : z_fetch 166 4 = some (.instanceof 11, 7, 6) := by decide +kernel
theorem f166_7 : z_fetch 166 7 = some (.iload 1, 8, 0) := by decide +kernel
theorem f166_8 : z_fetch 166 8 = some (.iaload, 9, 0) := by decide +kernel
theorem f166_9 : z_fetch 166 9 = some (.if_icmp .ge 0, 12, 69) := by decide +kernel
theorem f166_12 : z_fetch 166 12 = some (.iconst 36, 14, 0) := by decide +kernel
theorem f166_14 : z_fetch 166 14 = some (.iload 1, 15, 0) := by decide +kernel
theorem f166_15 : z_fetch 166 15 = some (.imul, 16, 0) := by decide +kernel
theorem f166_16 : z_fetch 166 16 = some (.iconst 3, 17, 0) := by decide +kernel
theorem f166_17 : z_fetch 166 17 = some (.iload 3, 18, 0) := by decide +kernel
theorem f166_18 : z_fetch 166 18 = some (.imul, 19, 0) := by decide +kernel
theorem f166_19 : z_fetch 166 19 = some (.iadd, 20, 0) := by decide +kernel
theorem f166_20 : z_fetch 166 20 = some (.istore 4, 22, 0) := by decide +kernel
theorem f166_22 : z_fetch 166 22 = some (.aload 0, 23, 0) := by decide +kernel
theorem f166_23 : z_fetch 166 23 = some (.instanceof 11, 26, 5) := by decide +kernel
theorem f166_26 : z_fetch 166 26 = some (.iload 4, 28, 0) := by decide +kernel
theorem f166_28 : z_fetch 166 28 = some (.iaload, 29, 0) := by decide +kernel
theorem f166_29 : z_fetch 166 29 = some (.iload 2, 30, 0) := by decide +kernel
theorem f166_30 : z_fetch 166 30 = some (.if_icmp .ne 0, 33, 63) := by decide +kernel
theorem f166_33 : z_fetch 166 33 = some (.aload 0, 34, 0) := by decide +kernel
theorem f166_34 : z_fetch 166 34 = some (.iload 1, 35, 0) := by decide +kernel
theorem f166_35 : z_fetch 166 35 = some (.aload 0, 36, 0) := by decide +kernel
theorem f166_36 : z_fetch 166 36 = some (.instanceof 11, 39, 5) := by decide +kernel
theorem f166_39 : z_fetch 166 39 = some (.iload 4, 41, 0) := by decide +kernel
theorem f166_41 : z_fetch 166 41 = some (.iconst 1, 42, 0) := by decide +kernel
theorem f166_42 : z_fetch 166 42 = some (.iadd, 43, 0) := by decide +kernel
theorem f166_43 : z_fetch 166 43 = some (.iaload, 44, 0) := by decide +kernel
theorem f166_44 : z_fetch 166 44 = some (.aload 0, 45, 0) := by decide +kernel
theorem f166_45 : z_fetch 166 45 = some (.instanceof 11, 48, 5) := by decide +kernel
theorem f166_48 : z_fetch 166 48 = some (.iload 4, 50, 0) := by decide +kernel
theorem f166_50 : z_fetch 166 50 = some (.iconst 2, 51, 0) := by decide +kernel
theorem f166_51 : z_fetch 166 51 = some (.iadd, 52, 0) := by decide +kernel
theorem f166_52 : z_fetch 166 52 = some (.iaload, 53, 0) := by decide +kernel
theorem f166_53 : z_fetch 166 53 = some (.invokevirtual 152, 56, 0) := by decide +kernel
theorem f166_56 : z_fetch 166 56 = some (.goto_w 1, 57, 0) := by decide +kernel
theorem f166_57 : z_fetch 166 57 = some (.lcmp, 58, 0) := by decide +kernel
theorem f166_58 : z_fetch 166 58 = some (.ifCond .ne 0, 61, 63) := by decide +kernel
theorem f166_61 : z_fetch 166 61 = some (.iconst 1, 62, 0) := by decide +kernel
theorem f166_62 : z_fetch 166 62 = some (.ireturn, 63, 1) := by decide +kernel
theorem f166_63 : z_fetch 166 63 = some (.iinc 3 1, 66, 0) := by decide +kernel
theorem f166_66 : z_fetch 166 66 = some (.goto 0, 69, 2) := by decide +kernel
theorem f166_69 : z_fetch 166 69 = some (.iconst 0, 70, 0) := by decide +kernel
theorem f166_70 : z_fetch 166 70 = some (.ireturn, 71, 1) := by decide +kernel
theorem f167_0 : z_fetch 167 0 = some (.iload 1, 1, 0) := by decide +kernel
theorem f167_1 : z_fetch 167 1 = some (.ifCond .lt 0, 4, 17) := by decide +kernel
theorem f167_4 : z_fetch 167 4 = some (.aload 0, 5, 0) := by decide +kernel
theorem f167_5 : z_fetch 167 5 = some (.iload 1, 6, 0) := by decide +kernel
theorem f167_6 : z_fetch 167 6 = some (.iconst 1, 7, 0) := by decide +kernel
theorem f167_7 : z_fetch 167 7 = some (.invokevirtual 166, 10, 0) := by decide +kernel
theorem f167_10 : z_fetch 167 10 = some (.ifCond .eq 0, 13, 17) := by decide +kernel
theorem f167_13 : z_fetch 167 13 = some (.iconst 1, 14, 0) := by decide +kernel
theorem f167_14 : z_fetch 167 14 = some (.goto 0, 17, 18) := by decide +kernel
theorem f167_17 : z_fetch 167 17 = some (.iconst 0, 18, 0) := by decide +kernel
theorem f167_18 : z_fetch 167 18 = some (.ireturn, 19, 1) := by decide +kernel
theorem f168_0 : z_fetch 168 0 = some (.aload 0, 1, 0) := by decide +kernel
theorem f168_1 : z_fetch 168 1 = some (.iload 1, 2, 0) := by decide +kernel
theorem f168_2 : z_fetch 168 2 = some (.aload 0, 3, 0) := by decide +kernel
theorem f168_3 : z_fetch 168 3 = some (.iload 1, 4, 0) := by decide +kernel
theorem f168_4 : z_fetch 168 4 = some (.iconst 0, 5, 0) := by decide +kernel
theorem f168_5 : z_fetch 168 5 = some (.invokevirtual 155, 8, 0) := by decide +kernel
theorem f168_8 : z_fetch 168 8 = some (.aload 0, 9, 0) := by decide +kernel
theorem f168_9 : z_fetch 168 9 = some (.instanceof 11, 12, 25) := by decide +kernel
theorem f168_12 : z_fetch 168 12 = some (.iconst 3, 13, 0) := by decide +kernel
theorem f168_13 : z_fetch 168 13 = some (.iaload, 14, 0) := by decide +kernel
theorem f168_14 : z_fetch 168 14 = some (.aload 0, 15, 0) := by decide +kernel
theorem f168_15 : z_fetch 168 15 = some (.iload 1, 16, 0) := by decide +kernel
theorem f168_16 : z_fetch 168 16 = some (.iconst 2, 17, 0) := by decide +kernel
theorem f168_17 : z_fetch 168 17 = some (.invokevirtual 155, 20, 0) := by decide +kernel
theorem f168_20 : z_fetch 168 20 = some (.isub, 21, 0) := by decide +kernel
theorem f168_21 : z_fetch 168 21 = some (.aload 0, 22, 0) := by decide +kernel
theorem f168_22 : z_fetch 168 22 = some (.iload 1, 23, 0) := by decide +kernel
theorem f168_23 : z_fetch 168 23 = some (.iconst 3, 24, 0) := by decide +kernel
theorem f168_24 : z_fetch 168 24 = some (.invokevirtual 155, 27, 0) := by decide +kernel
theorem f168_27 : z_fetch 168 27 = some (.aload 0, 28, 0) := by decide +kernel
theorem f168_28 : z_fetch 168 28 = some (.iload 1, 29, 0) := by decide +kernel
theorem f168_29 : z_fetch 168 29 = some (.iconst 3, 30, 0) := by decide +kernel
theorem f168_30 : z_fetch 168 30 = some (.invokevirtual 155, 33, 0) := by decide +kernel
theorem f168_33 : z_fetch 168 33 = some (.iload 2, 34, 0) := by decide +kernel
theorem f168_34 : z_fetch 168 34 = some (.invokestatic 111, 37, 0) := by decide +kernel
theorem f168_37 : z_fetch 168 37 = some (.ifCond .ne 0, 40, 44) := by decide +kernel
theorem f168_40 : z_fetch 168 40 = some (.iconst 1, 41, 0) := by decide +kernel
theorem f168_41 : z_fetch 168 41 = some (.goto 0, 44, 45) := by decide +kernel
theorem f168_44 : z_fetch 168 44 = some (.iconst 0, 45, 0) := by decide +kernel
theorem f168_45 : z_fetch 168 45 = some (.aload 0, 46, 0) := by decide +kernel
theorem f168_46 : z_fetch 168 46 = some (.iload 1, 47, 0) := by decide +kernel
theorem f168_47 : z_fetch 168 47 = some (.iconst 1, 48, 0) := by decide +kernel
theorem f168_48 : z_fetch 168 48 = some (.invokevirtual 155, 51, 0) := by decide +kernel
theorem f168_51 : z_fetch 168 51 = some (.iload 2, 52, 0) := by decide +kernel
theorem f168_52 : z_fetch 168 52 = some (.aload 0, 53, 0) := by decide +kernel
theorem f168_53 : z_fetch 168 53 = some (.instanceof 11, 56, 25) := by decide +kernel
theorem f168_56 : z_fetch 168 56 = some (.iconst 3, 57, 0) := by decide +kernel
theorem f168_57 : z_fetch 168 57 = some (.iaload, 58, 0) := by decide +kernel
theorem f168_58 : z_fetch 168 58 = some (.invokevirtual 165, 61, 0) := by decide +kernel
theorem f168_61 : z_fetch 168 61 = some (.return_, 62, 0) := by decide +kernel
theorem f169_0 : z_fetch 169 0 = some (.aload 0, 1, 0) := by decide +kernel
theorem f169_1 : z_fetch 169 1 = some (.iload 1, 2, 0) := by decide +kernel
theorem f169_2 : z_fetch 169 2 = some (.aload 0, 3, 0) := by decide +kernel
theorem f169_3 : z_fetch 169 3 = some (.iload 1, 4, 0) := by decide +kernel
theorem f169_4 : z_fetch 169 4 = some (.iconst 0, 5, 0) := by decide +kernel
theorem f169_5 : z_fetch 169 5 = some (.invokevirtual 155, 8, 0) := by decide +kernel
theorem f169_8 : z_fetch 169 8 = some (.aload 0, 9, 0) := by decide +kernel
theorem f169_9 : z_fetch 169 9 = some (.instanceof 11, 12, 25) := by decide +kernel
theorem f169_12 : z_fetch 169 12 = some (.iconst 3, 13, 0) := by decide +kernel
theorem f169_13 : z_fetch 169 13 = some (.iaload, 14, 0) := by decide +kernel
theorem f169_14 : z_fetch 169 14 = some (.aload 0, 15, 0) := by decide +kernel
theorem f169_15 : z_fetch 169 15 = some (.iload 1, 16, 0) := by decide +kernel
theorem f169_16 : z_fetch 169 16 = some (.iconst 2, 17, 0) := by decide +kernel
theorem f169_17 : z_fetch 169 17 = some (.invokevirtual 155, 20, 0) := by decide +kernel
theorem f169_20 : z_fetch 169 20 = some (.isub, 21, 0) := by decide +kernel
theorem f169_21 : z_fetch 169 21 = some (.aload 0, 22, 0) := by decide +kernel
theorem f169_22 : z_fetch 169 22 = some (.iload 1, 23, 0) := by decide +kernel
theorem f169_23 : z_fetch 169 23 = some (.iconst 3, 24, 0) := by decide +kernel
theorem f169_24 : z_fetch 169 24 = some (.invokevirtual 155, 27, 0) := by decide +kernel
theorem f169_27 : z_fetch 169 27 = some (.aload 0, 28, 0) := by decide +kernel
theorem f169_28 : z_fetch 169 28 = some (.iload 1, 29, 0) := by decide +kernel
theorem f169_29 : z_fetch 169 29 = some (.iconst 4, 30, 0) := by decide +kernel
theorem f169_30 : z_fetch 169 30 = some (.invokevirtual 155, 33, 0) := by decide +kernel
theorem f169_33 : z_fetch 169 33 = some (.iconst 1, 34, 0) := by decide +kernel
theorem f169_34 : z_fetch 169 34 = some (.if_icmp .ne 0, 37, 41) := by decide +kernel
theorem f169_37 : z_fetch 169 37 = some (.iconst 1, 38, 0) := by decide +kernel
theorem f169_38 : z_fetch 169 38 = some (.goto 0, 41, 42) := by decide +kernel
theorem f169_41 : z_fetch 169 41 = some (.iconst 0, 42, 0) := by decide +kernel
theorem f169_42 : z_fetch 169 42 = some (.aload 0, 43, 0) := by decide +kernel
theorem f169_43 : z_fetch 169 43 = some (.iload 1, 44, 0) := by decide +kernel
theorem f169_44 : z_fetch 169 44 = some (.iconst 1, 45, 0) := by decide +kernel
theorem f169_45 : z_fetch 169 45 = some (.invokevirtual 155, 48, 0) := by decide +kernel
theorem f169_48 : z_fetch 169 48 = some (.aload 0, 49, 0) := by decide +kernel
theorem f169_49 : z_fetch 169 49 = some (.iload 1, 50, 0) := by decide +kernel
theorem f169_50 : z_fetch 169 50 = some (.iconst 1, 51, 0) := by decide +kernel
theorem f169_51 : z_fetch 169 51 = some (.invokevirtual 155, 54, 0) := by decide +kernel
theorem f169_54 : z_fetch 169 54 = some (.aload 0, 55, 0) := by decide +kernel
theorem f169_55 : z_fetch 169 55 = some (.instanceof 11, 58, 25) := by decide +kernel
theorem f169_58 : z_fetch 169 58 = some (.iconst 3, 59, 0) := by decide +kernel
theorem f169_59 : z_fetch 169 59 = some (.iaload, 60, 0) := by decide +kernel
theorem f169_60 : z_fetch 169 60 = some (.invokevirtual 165, 63, 0) := by decide +kernel
theorem f169_63 : z_fetch 169 63 = some (.return_, 64, 0) := by decide +kernel
theorem f170_0 : z_fetch 170 0 = some (.aload 0, 1, 0) := by decide +kernel
theorem f170_1 : z_fetch 170 1 = some (.iload 1, 2, 0) := by decide +kernel
theorem f170_2 : z_fetch 170 2 = some (.invokevirtual 157, 5, 0) := by decide +kernel
theorem f170_5 : z_fetch 170 5 = some (.ifCond .eq 0, 8, 10) := by decide +kernel
theorem f170_8 : z_fetch 170 8 = some (.iconst 1, 9, 0) := by decide +kernel
theorem f170_9 : z_fetch 170 9 = some (.ireturn, 10, 0) := by decide +kernel
theorem f170_10 : z_fetch 170 10 = some (.aload 0, 11, 0) := by decide +kernel
theorem f170_11 : z_fetch 170 11 = some (.aload 0, 12, 0) := by decide +kernel
theorem f170_12 : z_fetch 170 12 = some (.iload 1, 13, 0) := by decide +kernel
theorem f170_13 : z_fetch 170 13 = some (.iconst 1, 14, 0) := by decide +kernel
theorem f170_14 : z_fetch 170 14 = some (.invokevirtual 155, 17, 0) := by decide +kernel
theorem f170_17 : z_fetch 170 17 = some (.invokevirtual 160, 20, 0) := by decide +kernel
theorem f170_20 : z_fetch 170 20 = some (.iload 2, 21, 0) := by decide +kernel
theorem f170_21 : z_fetch 170 21 = some (.invokestatic 111, 24, 0) := by decide +kernel
theorem f170_24 : z_fetch 170 24 = some (.ifCond .ne 0, 27, 29) := by decide +kernel
theorem f170_27 : z_fetch 170 27 = some (.iconst 2, 28, 0) := by decide +kernel
theorem f170_28 : z_fetch 170 28 = some (.ireturn, 29, 0) := by decide +kernel
theorem f170_29 : z_fetch 170 29 = some (.aload 0, 30, 0) := by decide +kernel
theorem f170_30 : z_fetch 170 30 = some (.iload 1, 31, 0) := by decide +kernel
theorem f170_31 : z_fetch 170 31 = some (.iload 2, 32, 0) := by decide +kernel
theorem f170_32 : z_fetch 170 32 = some (.invokevirtual 168, 35, 0) := by decide +kernel
theorem f170_35 : z_fetch 170 35 = some (.aload 0, 36, 0) := by decide +kernel
theorem f170_36 : z_fetch 170 36 = some (.iload 3, 37, 0) := by decide +kernel
theorem f170_37 : z_fetch 170 37 = some (.invokevirtual 167, 40, 0) := by decide +kernel
theorem f170_40 : z_fetch 170 40 = some (.ifCond .eq 0, 43, 47) := by decide +kernel
theorem f170_43 : z_fetch 170 43 = some (.iconst 3, 44, 0) := by decide +kernel
theorem f170_44 : z_fetch 170 44 = some (.goto 0, 47, 48) := by decide +kernel
theorem f170_47 : z_fetch 170 47 = some (.iconst 0, 48, 0) := by decide +kernel
theorem f170_48 : z_fetch 170 48 = some (.ireturn, 49, 0) := by decide +kernel
theorem f171_0 : z_fetch 171 0 = some (.aload 0, 1, 0) := by decide +kernel
theorem f171_1 : z_fetch 171 1 = some (.iload 1, 2, 0) := by decide +kernel
theorem f171_2 : z_fetch 171 2 = some (.invokevirtual 157, 5, 0) := by decide +kernel
theorem f171_5 : z_fetch 171 5 = some (.ifCond .eq 0, 8, 10) := by decide +kernel
theorem f171_8 : z_fetch 171 8 = some (.iconst 1, 9, 0) := by decide +kernel
theorem f171_9 : z_fetch 171 9 = some (.ireturn, 10, 0) := by decide +kernel
theorem f171_10 : z_fetch 171 10 = some (.aload 0, 11, 0) := by decide +kernel
theorem f171_11 : z_fetch 171 11 = some (.iload 1, 12, 0) := by decide +kernel
theorem f171_12 : z_fetch 171 12 = some (.iconst 4, 13, 0) := by decide +kernel
theorem f171_13 : z_fetch 171 13 = some (.invokevirtual 155, 16, 0) := by decide +kernel
theorem f171_16 : z_fetch 171 16 = some (.ifCond .ne 0, 19, 21) := by decide +kernel
theorem f171_19 : z_fetch 171 19 = some (.iconst 2, 20, 0) := by decide +kernel
theorem f171_20 : z_fetch 171 20 = some (.ireturn, 21, 0) := by decide +kernel
theorem f171_21 : z_fetch 171 21 = some (.aload 0, 22, 0) := by decide +kernel
theorem f171_22 : z_fetch 171 22 = some (.iload 1, 23, 0) := by decide +kernel
theorem f171_23 : z_fetch 171 23 = some (.invokevirtual 169, 26, 0) := by decide +kernel
theorem f171_26 : z_fetch 171 26 = some (.aload 0, 27, 0) := by decide +kernel
theorem f171_27 : z_fetch 171 27 = some (.iload 2, 28, 0) := by decide +kernel
theorem f171_28 : z_fetch 171 28 = some (.invokevirtual 167, 31, 0) := by decide +kernel
theorem f171_31 : z_fetch 171 31 = some (.ifCond .eq 0, 34, 38) := by decide +kernel
theorem f171_34 : z_fetch 171 34 = some (.iconst 3, 35, 0) := by decide +kernel
theorem f171_35 : z_fetch 171 35 = some (.goto 0, 38, 39) := by decide +kernel
theorem f171_38 : z_fetch 171 38 = some (.iconst 0, 39, 0) := by decide +kernel
theorem f171_39 : z_fetch 171 39 = some (.ireturn, 40, 0) := by decide +kernel
theorem f172_0 : z_fetch 172 0 = some (.iconst 8, 2, 0) := by decide +kernel
theorem f172_2 : z_fetch 172 2 = some (.iconst 6, 4, 0) := by decide +kernel
theorem f172_4 : z_fetch 172 4 = some (.iload 1, 5, 0) := by decide +kernel
theorem f172_5 : z_fetch 172 5 = some (.imul, 6, 0) := by decide +kernel
theorem f172_6 : z_fetch 172 6 = some (.iadd, 7, 0) := by decide +kernel
theorem f172_7 : z_fetch 172 7 = some (.istore 3, 8, 0) := by decide +kernel
theorem f172_8 : z_fetch 172 8 = some (.aload 0, 9, 0) := by decide +kernel
theorem f172_9 : z_fetch 172 9 = some (.instanceof 11, 12, 25) := by decide +kernel
theorem f172_12 : z_fetch 172 12 = some (.iload 3, 13, 0) := by decide +kernel
theorem f172_13 : z_fetch 172 13 = some (.iconst 1, 14, 0) := by decide +kernel
theorem f172_14 : z_fetch 172 14 = some (.iadd, 15, 0) := by decide +kernel
theorem f172_15 : z_fetch 172 15 = some (.iload 2, 16, 0) := by decide +kernel
theorem f172_16 : z_fetch 172 16 = some (.iastore, 17, 0) := by decide +kernel
theorem f172_17 : z_fetch 172 17 = some (.aload 0, 18, 0) := by decide +kernel
theorem f172_18 : z_fetch 172 18 = some (.instanceof 11, 21, 25) := by decide +kernel
theorem f172_21 : z_fetch 172 21 = some (.iload 3, 22, 0) := by decide +kernel
theorem f172_22 : z_fetch 172 22 = some (.iconst 4, 23, 0) := by decide +kernel
theorem f172_23 : z_fetch 172 23 = some (.iadd, 24, 0) := by decide +kernel
theorem f172_24 : z_fetch 172 24 = some (.aload 0, 25, 0) := by decide +kernel
theorem f172_25 : z_fetch 172 25 = some (.instanceof 11, 28, 25) := by decide +kernel
theorem f172_28 : z_fetch 172 28 = some (.iload 3, 29, 0) := by decide +kernel
theorem f172_29 : z_fetch 172 29 = some (.iconst 3, 30, 0) := by decide +kernel
theorem f172_30 : z_fetch 172 30 = some (.iadd, 31, 0) := by decide +kernel
theorem f172_31 : z_fetch 172 31 = some (.iaload, 32, 0) := by decide +kernel
theorem f172_32 : z_fetch 172 32 = some (.iload 2, 33, 0) := by decide +kernel
theorem f172_33 : z_fetch 172 33 = some (.invokestatic 111, 36, 0) := by decide +kernel
theorem f172_36 : z_fetch 172 36 = some (.ifCond .eq 0, 39, 43) := by decide +kernel
theorem f172_39 : z_fetch 172 39 = some (.iconst 0, 40, 0) := by decide +kernel
theorem f172_40 : z_fetch 172 40 = some (.goto 0, 43, 44) := by decide +kernel
theorem f172_43 : z_fetch 172 43 = some (.iconst 1, 44, 0) := by decide +kernel
theorem f172_44 : z_fetch 172 44 = some (.iastore, 45, 0) := by decide +kernel
theorem f172_45 : z_fetch 172 45 = some (.aload 0, 46, 0) := by decide +kernel
theorem f172_46 : z_fetch 172 46 = some (.instanceof 11, 49, 25) := by decide +kernel
theorem f172_49 : z_fetch 172 49 = some (.iload 3, 50, 0) := by decide +kernel
theorem f172_50 : z_fetch 172 50 = some (.iconst 3, 51, 0) := by decide +kernel
theorem f172_51 : z_fetch 172 51 = some (.iadd, 52, 0) := by decide +kernel
theorem f172_52 : z_fetch 172 52 = some (.dup2, 53, 0) := by decide +kernel
theorem f172_53 : z_fetch 172 53 = some (.iaload, 54, 0) := by decide +kernel
theorem f172_54 : z_fetch 172 54 = some (.iconst 1, 55, 0) := by decide +kernel
theorem f172_55 : z_fetch 172 55 = some (.iload 2, 56, 0) := by decide +kernel
theorem f172_56 : z_fetch 172 56 = some (.ishl, 57, 0) := by decide +kernel
theorem f172_57 : z_fetch 172 57 = some (.ior, 58, 0) := by decide +kernel
theorem f172_58 : z_fetch 172 58 = some (.iastore, 59, 0) := by decide +kernel
theorem f172_59 : z_fetch 172 59 = some (.aload 0, 60, 0) := by decide +kernel
theorem f172_60 : z_fetch 172 60 = some (.dup, 61, 0) := by decide +kernel
theorem f172_61 : z_fetch 172 61 = some (.getfield 11, 64, 26) := by decide +kernel
theorem f172_64 : z_fetch 172 64 = some (.iconst 1, 65, 0) := by decide +kernel
theorem f172_65 : z_fetch 172 65 = some (.iadd, 66, 0) := by decide +kernel
theorem f172_66 : z_fetch 172 66 = some (.putfield 11, 69, 26) := by decide +kernel
theorem f172_69 : z_fetch 172 69 = some (.return_, 70, 0) := by decide +kernel
theorem f173_0 : z_fetch 173 0 = some (.iconst 8, 2, 0) := by decide +kernel
theorem f173_2 : z_fetch 173 2 = some (.iconst 6, 4, 0) := by decide +kernel
theorem f173_4 : z_fetch 173 4 = some (.iload 1, 5, 0) := by decide +kernel
theorem f173_5 : z_fetch 173 5 = some (.imul, 6, 0) := by decide +kernel
theorem f173_6 : z_fetch 173 6 = some (.iadd, 7, 0) := by decide +kernel
theorem f173_7 : z_fetch 173 7 = some (.istore 2, 8, 0) := by decide +kernel
theorem f173_8 : z_fetch 173 8 = some (.aload 0, 9, 0) := by decide +kernel
theorem f173_9 : z_fetch 173 9 = some (.instanceof 11, 12, 25) := by decide +kernel
theorem f173_12 : z_fetch 173 12 = some (.iload 2, 13, 0) := by decide +kernel
theorem f173_13 : z_fetch 173 13 = some (.iconst 2, 14, 0) := by decide +kernel
theorem f173_14 : z_fetch 173 14 = some (.iadd, 15, 0) := by decide +kernel
theorem f173_15 : z_fetch 173 15 = some (.aload 0, 16, 0) := by decide +kernel
theorem f173_16 : z_fetch 173 16 = some (.instanceof 11, 19, 25) := by decide +kernel
theorem f173_19 : z_fetch 173 19 = some (.iconst 3, 20, 0) := by decide +kernel
theorem f173_20 : z_fetch 173 20 = some (.iaload, 21, 0) := by decide +kernel
theorem f173_21 : z_fetch 173 21 = some (.iastore, 22, 0) := by decide +kernel
theorem f173_22 : z_fetch 173 22 = some (.aload 0, 23, 0) := by decide +kernel
theorem f173_23 : z_fetch 173 23 = some (.instanceof 11, 26, 25) := by decide +kernel
theorem f173_26 : z_fetch 173 26 = some (.iload 2, 27, 0) := by decide +kernel
theorem f173_27 : z_fetch 173 27 = some (.iconst 3, 28, 0) := by decide +kernel
theorem f173_28 : z_fetch 173 28 = some (.iadd, 29, 0) := by decide +kernel
theorem f173_29 : z_fetch 173 29 = some (.iconst 1, 30, 0) := by decide +kernel
theorem f173_30 : z_fetch 173 30 = some (.aload 0, 31, 0) := by decide +kernel
theorem f173_31 : z_fetch 173 31 = some (.instanceof 11, 34, 25) := by decide +kernel
theorem f173_34 : z_fetch 173 34 = some (.iload 2, 35, 0) := by decide +kernel
theorem f173_35 : z_fetch 173 35 = some (.iconst 1, 36, 0) := by decide +kernel
theorem f173_36 : z_fetch 173 36 = some (.iadd, 37, 0) := by decide +kernel
theorem f173_37 : z_fetch 173 37 = some (.iaload, 38, 0) := by decide +kernel
theorem f173_38 : z_fetch 173 38 = some (.ishl, 39, 0) := by decide +kernel
theorem f173_39 : z_fetch 173 39 = some (.iastore, 40, 0) := by decide +kernel
theorem f173_40 : z_fetch 173 40 = some (.aload 0, 41, 0) := by decide +kernel
theorem f173_41 : z_fetch 173 41 = some (.instanceof 11, 44, 25) := by decide +kernel
theorem f173_44 : z_fetch 173 44 = some (.iload 2, 45, 0) := by decide +kernel
theorem f173_45 : z_fetch 173 45 = some (.iconst 4, 46, 0) := by decide +kernel
theorem f173_46 : z_fetch 173 46 = some (.iadd, 47, 0) := by decide +kernel
theorem f173_47 : z_fetch 173 47 = some (.iconst 0, 48, 0) := by decide +kernel
theorem f173_48 : z_fetch 173 48 = some (.iastore, 49, 0) := by decide +kernel
theorem f173_49 : z_fetch 173 49 = some (.aload 0, 50, 0) := by decide +kernel
theorem f173_50 : z_fetch 173 50 = some (.instanceof 11, 53, 25) := by decide +kernel
theorem f173_53 : z_fetch 173 53 = some (.iload 2, 54, 0) := by decide +kernel
theorem f173_54 : z_fetch 173 54 = some (.iconst 5, 55, 0) := by decide +kernel
theorem f173_55 : z_fetch 173 55 = some (.iadd, 56, 0) := by decide +kernel
theorem f173_56 : z_fetch 173 56 = some (.dup2, 57, 0) := by decide +kernel
theorem f173_57 : z_fetch 173 57 = some (.iaload, 58, 0) := by decide +kernel
theorem f173_58 : z_fetch 173 58 = some (.iconst 1, 59, 0) := by decide +kernel
theorem f173_59 : z_fetch 173 59 = some (.iadd, 60, 0) := by decide +kernel
theorem f173_60 : z_fetch 173 60 = some (.iastore, 61, 0) := by decide +kernel
theorem f173_61 : z_fetch 173 61 = some (.aload 0, 62, 0) := by decide +kernel
theorem f173_62 : z_fetch 173 62 = some (.instanceof 11, 65, 25) := by decide +kernel
theorem f173_65 : z_fetch 173 65 = some (.iconst 4, 66, 0) := by decide +kernel
theorem f173_66 : z_fetch 173 66 = some (.dup2, 67, 0) := by decide +kernel
theorem f173_67 : z_fetch 173 67 = some (.iaload, 68, 0) := by decide +kernel
theorem f173_68 : z_fetch 173 68 = some (.iconst 1, 69, 0) := by decide +kernel
theorem f173_69 : z_fetch 173 69 = some (.iadd, 70, 0) := by decide +kernel
theorem f173_70 : z_fetch 173 70 = some (.iastore, 71, 0) := by decide +kernel
theorem f173_71 : z_fetch 173 71 = some (.return_, 72, 0) := by decide +kernel
theorem f174_0 : z_fetch 174 0 = some (.aload 0, 1, 0) := by decide +kernel
theorem f174_1 : z_fetch 174 1 = some (.iload 1, 2, 0) := by decide +kernel
theorem f174_2 : z_fetch 174 2 = some (.invokevirtual 154, 5, 0) := by decide +kernel
theorem f174_5 : z_fetch 174 5 = some (.ifCond .eq 0, 8, 26) := by decide +kernel
theorem f174_8 : z_fetch 174 8 = some (.aload 0, 9, 0) := by decide +kernel
theorem f174_9 : z_fetch 174 9 = some (.iload 2, 10, 0) := by decide +kernel
theorem f174_10 : z_fetch 174 10 = some (.invokevirtual 153, 13, 0) := by decide +kernel
theorem f174_13 : z_fetch 174 13 = some (.ifCond .eq 0, 16, 26) := by decide +kernel
theorem f174_16 : z_fetch 174 16 = some (.aload 0, 17, 0) := by decide +kernel
theorem f174_17 : z_fetch 174 17 = some (.iload 1, 18, 0) := by decide +kernel
theorem f174_18 : z_fetch 174 18 = some (.iconst 1, 19, 0) := by decide +kernel
theorem f174_19 : z_fetch 174 19 = some (.invokevirtual 155, 22, 0) := by decide +kernel
theorem f174_22 : z_fetch 174 22 = some (.iload 2, 23, 0) := by decide +kernel
theorem f174_23 : z_fetch 174 23 = some (.if_icmp .ne 0, 26, 28) := by decide +kernel
theorem f174_26 : z_fetch 174 26 = some (.iconst (-1), 27, 0) := by decide +kernel
theorem f174_27 : z_fetch 174 27 = some (.ireturn, 28, 0) := by decide +kernel
theorem f174_28 : z_fetch 174 28 = some (.aload 0, 29, 0) := by decide +kernel
theorem f174_29 : z_fetch 174 29 = some (.iload 1, 30, 0) := by decide +kernel
theorem f174_30 : z_fetch 174 30 = some (.iload 2, 31, 0) := by decide +kernel
theorem f174_31 : z_fetch 174 31 = some (.aload 0, 32, 0) := by decide +kernel
theorem f174_32 : z_fetch 174 32 = some (.instanceof 11, 35, 25) := by decide +kernel
theorem f174_35 : z_fetch 174 35 = some (.iconst 6, 37, 0) := by decide +kernel
theorem f174_37 : z_fetch 174 37 = some (.iaload, 38, 0) := by decide +kernel
theorem f174_38 : z_fetch 174 38 = some (.invokevirtual 170, 41, 0) := by decide +kernel
theorem f174_41 : z_fetch 174 41 = some (.istore 3, 42, 0) := by decide +kernel
theorem f174_42 : z_fetch 174 42 = some (.iload 3, 43, 0) := by decide +kernel
theorem f174_43 : z_fetch 174 43 = some (.ifCond .le 0, 46, 51) := by decide +kernel
theorem f174_46 : z_fetch 174 46 = some (.iconst (-2), 48, 0) := by decide +kernel
theorem f174_48 : z_fetch 174 48 = some (.iload 3, 49, 0) := by decide +kernel
theorem f174_49 : z_fetch 174 49 = some (.isub, 50, 0) := by decide +kernel
theorem f174_50 : z_fetch 174 50 = some (.ireturn, 51, 0) := by decide +kernel
theorem f174_51 : z_fetch 174 51 = some (.aload 0, 52, 0) := by decide +kernel
theorem f174_52 : z_fetch 174 52 = some (.iload 1, 53, 0) := by decide +kernel
theorem f174_53 : z_fetch 174 53 = some (.iload 2, 54, 0) := by decide +kernel
theorem f174_54 : z_fetch 174 54 = some (.invokevirtual 172, 57, 0) := by decide +kernel
theorem f174_57 : z_fetch 174 57 = some (.iconst 0, 58, 0) := by decide +kernel
theorem f174_58 : z_fetch 174 58 = some (.ireturn, 59, 0) := by decide +kernel
theorem f175_0 : z_fetch 175 0 = some (.aload 0, 1, 0) := by decide +kernel
theorem f175_1 : z_fetch 175 1 = some (.iload 1, 2, 0) := by decide +kernel
theorem f175_2 : z_fetch 175 2 = some (.invokevirtual 154, 5, 0) := by decide +kernel
theorem f175_5 : z_fetch 175 5 = some (.ifCond .ne 0, 8, 10) := by decide +kernel
theorem f175_8 : z_fetch 175 8 = some (.iconst (-1), 9, 0) := by decide +kernel
theorem f175_9 : z_fetch 175 9 = some (.ireturn, 10, 0) := by decide +kernel
theorem f175_10 : z_fetch 175 10 = some (.aload 0, 11, 0) := by decide +kernel
theorem f175_11 : z_fetch 175 11 = some (.iload 1, 12, 0) := by decide +kernel
theorem f175_12 : z_fetch 175 12 = some (.aload 0, 13, 0) := by decide +kernel
theorem f175_13 : z_fetch 175 13 = some (.instanceof 11, 16, 25) := by decide +kernel
theorem f175_16 : z_fetch 175 16 = some (.iconst 6, 18, 0) := by decide +kernel
theorem f175_18 : z_fetch 175 18 = some (.iaload, 19, 0) := by decide +kernel
theorem f175_19 : z_fetch 175 19 = some (.invokevirtual 171, 22, 0) := by decide +kernel
theorem f175_22 : z_fetch 175 22 = some (.istore 2, 23, 0) := by decide +kernel
theorem f175_23 : z_fetch 175 23 = some (.iload 2, 24, 0) := by decide +kernel
theorem f175_24 : z_fetch 175 24 = some (.ifCond .le 0, 27, 32) := by decide +kernel
theorem f175_27 : z_fetch 175 27 = some (.iconst (-2), 29, 0) := by decide +kernel
theorem f175_29 : z_fetch 175 29 = some (.iload 2, 30, 0) := by decide +kernel
theorem f175_30 : z_fetch 175 30 = some (.isub, 31, 0) := by decide +kernel
theorem f175_31 : z_fetch 175 31 = some (.ireturn, 32, 0) := by decide +kernel
theorem f175_32 : z_fetch 175 32 = some (.aload 0, 33, 0) := by decide +kernel
theorem f175_33 : z_fetch 175 33 = some (.iload 1, 34, 0) := by decide +kernel
theorem f175_34 : z_fetch 175 34 = some (.invokevirtual 173, 37, 0) := by decide +kernel
theorem f175_37 : z_fetch 175 37 = some (.aload 0, 38, 0) := by decide +kernel
theorem f175_38 : z_fetch 175 38 = some (.iload 1, 39, 0) := by decide +kernel
theorem f175_39 : z_fetch 175 39 = some (.iconst 5, 40, 0) := by decide +kernel
theorem f175_40 : z_fetch 175 40 = some (.invokevirtual 155, 43, 0) := by decide +kernel
theorem f175_43 : z_fetch 175 43 = some (.ireturn, 44, 0) := by decide +kernel
theorem f176_0 : z_fetch 176 0 = some (.aload 0, 1, 0) := by decide +kernel
theorem f176_1 : z_fetch 176 1 = some (.instanceof 11, 4, 25) := by decide +kernel
theorem f176_4 : z_fetch 176 4 = some (.iconst 0, 5, 0) := by decide +kernel
theorem f176_5 : z_fetch 176 5 = some (.iaload, 6, 0) := by decide +kernel
theorem f176_6 : z_fetch 176 6 = some (.ifCond .eq 0, 9, 35) := by decide +kernel
theorem f176_9 : z_fetch 176 9 = some (.iload 1, 10, 0) := by decide +kernel
theorem f176_10 : z_fetch 176 10 = some (.i2l, 11, 0) := by decide +kernel
theorem f176_11 : z_fetch 176 11 = some (.goto_w 1, 12, 0) := by decide +kernel
theorem f176_12 : z_fetch 176 12 = some (.goto_w 999, 15, 0) := by decide +kernel
theorem f176_15 : z_fetch 176 15 = some (.invokestatic 110, 18, 0) := by decide +kernel
theorem f176_18 : z_fetch 176 18 = some (.ifCond .eq 0, 21, 35) := by decide +kernel
theorem f176_21 : z_fetch 176 21 = some (.aload 0, 22, 0) := by decide +kernel
theorem f176_22 : z_fetch 176 22 = some (.instanceof 11, 25, 25) := by decide +kernel
theorem f176_25 : z_fetch 176 25 = some (.iconst 3, 26, 0) := by decide +kernel
theorem f176_26 : z_fetch 176 26 = some (.iaload, 27, 0) := by decide +kernel
theorem f176_27 : z_fetch 176 27 = some (.iload 1, 28, 0) := by decide +kernel
theorem f176_28 : z_fetch 176 28 = some (.iadd, 29, 0) := by decide +kernel
theorem f176_29 : z_fetch 176 29 = some (.iconst 19999, 32, 0) := by decide +kernel
theorem f176_32 : z_fetch 176 32 = some (.if_icmp .le 0, 35, 37) := by decide +kernel
theorem f176_35 : z_fetch 176 35 = some (.iconst (-1), 36, 0) := by decide +kernel
theorem f176_36 : z_fetch 176 36 = some (.ireturn, 37, 0) := by decide +kernel
theorem f176_37 : z_fetch 176 37 = some (.aload 0, 38, 0) := by decide +kernel
theorem f176_38 : z_fetch 176 38 = some (.instanceof 11, 41, 25) := by decide +kernel
theorem f176_41 : z_fetch 176 41 = some (.iconst 3, 42, 0) := by decide +kernel
theorem f176_42 : z_fetch 176 42 = some (.dup2, 43, 0) := by decide +kernel
theorem f176_43 : z_fetch 176 43 = some (.iaload, 44, 0) := by decide +kernel
theorem f176_44 : z_fetch 176 44 = some (.iload 1, 45, 0) := by decide +kernel
theorem f176_45 : z_fetch 176 45 = some (.iadd, 46, 0) := by decide +kernel
theorem f176_46 : z_fetch 176 46 = some (.iastore, 47, 0) := by decide +kernel
theorem f176_47 : z_fetch 176 47 = some (.aload 0, 48, 0) := by decide +kernel
theorem f176_48 : z_fetch 176 48 = some (.instanceof 11, 51, 25) := by decide +kernel
theorem f176_51 : z_fetch 176 51 = some (.iconst 3, 52, 0) := by decide +kernel
theorem f176_52 : z_fetch 176 52 = some (.iaload, 53, 0) := by decide +kernel
theorem f176_53 : z_fetch 176 53 = some (.ireturn, 54, 0) := by decide +kernel
theorem f177_0 : z_fetch 177 0 = some (.iconst 0, 1, 0) := by decide +kernel
theorem f177_1 : z_fetch 177 1 = some (.istore 5, 3, 0) := by decide +kernel
theorem f177_3 : z_fetch 177 3 = some (.iload 5, 5, 0) := by decide +kernel
theorem f177_5 : z_fetch 177 5 = some (.aload 0, 6, 0) := by decide +kernel
theorem f177_6 : z_fetch 177 6 = some (.instanceof 11, 9, 25) := by decide +kernel
theorem f177_9 : z_fetch 177 9 = some (.iconst 1, 10, 0) := by decide +kernel
theorem f177_10 : z_fetch 177 10 = some (.iaload, 11, 0) := by decide +kernel
theorem f177_11 : z_fetch 177 11 = some (.if_icmp .ge 0, 14, 80) := by decide +kernel
theorem f177_14 : z_fetch 177 14 = some (.iload 2, 15, 0) := by decide +kernel
theorem f177_15 : z_fetch 177 15 = some (.iload 5, 17, 0) := by decide +kernel
theorem f177_17 : z_fetch 177 17 = some (.invokestatic 111, 20, 0) := by decide +kernel
theorem f177_20 : z_fetch 177 20 = some (.ifCond .eq 0, 23, 74) := by decide +kernel
theorem f177_23 : z_fetch 177 23 = some (.aload 0, 24, 0) := by decide +kernel
theorem f177_24 : z_fetch 177 24 = some (.iload 5, 26, 0) := by decide +kernel
theorem f177_26 : z_fetch 177 26 = some (.iconst 1, 27, 0) := by decide +kernel
theorem f177_27 : z_fetch 177 27 = some (.invokevirtual 155, 30, 0) := by decide +kernel
theorem f177_30 : z_fetch 177 30 = some (.iload 3, 31, 0) := by decide +kernel
theorem f177_31 : z_fetch 177 31 = some (.if_icmp .ne 0, 34, 74) := by decide +kernel
theorem f177_34 : z_fetch 177 34 = some (.aload 0, 35, 0) := by decide +kernel
theorem f177_35 : z_fetch 177 35 = some (.iload 5, 37, 0) := by decide +kernel
theorem f177_37 : z_fetch 177 37 = some (.iload 4, 39, 0) := by decide +kernel
theorem f177_39 : z_fetch 177 39 = some (.iload 1, 40, 0) := by decide +kernel
theorem f177_40 : z_fetch 177 40 = some (.invokevirtual 170, 43, 0) := by decide +kernel
theorem f177_43 : z_fetch 177 43 = some (.ifCond .le 0, 46, 49) := by decide +kernel
theorem f177_46 : z_fetch 177 46 = some (.goto 0, 49, 74) := by decide +kernel
theorem f177_49 : z_fetch 177 49 = some (.aload 0, 50, 0) := by decide +kernel
theorem f177_50 : z_fetch 177 50 = some (.iload 5, 52, 0) := by decide +kernel
theorem f177_52 : z_fetch 177 52 = some (.iload 4, 54, 0) := by decide +kernel
theorem f177_54 : z_fetch 177 54 = some (.invokevirtual 168, 57, 0) := by decide +kernel
theorem f177_57 : z_fetch 177 57 = some (.aload 0, 58, 0) := by decide +kernel
theorem f177_58 : z_fetch 177 58 = some (.iload 1, 59, 0) := by decide +kernel
theorem f177_59 : z_fetch 177 59 = some (.iconst 0, 60, 0) := by decide +kernel
theorem f177_60 : z_fetch 177 60 = some (.invokevirtual 166, 63, 0) := by decide +kernel
theorem f177_63 : z_fetch 177 63 = some (.ifCond .eq 0, 66, 74) := by decide +kernel
theorem f177_66 : z_fetch 177 66 = some (.aload 0, 67, 0) := by decide +kernel
theorem f177_67 : z_fetch 177 67 = some (.iload 5, 69, 0) := by decide +kernel
theorem f177_69 : z_fetch 177 69 = some (.iload 4, 71, 0) := by decide +kernel
theorem f177_71 : z_fetch 177 71 = some (.invokevirtual 172, 74, 0) := by decide +kernel
theorem f177_74 : z_fetch 177 74 = some (.iinc 5 1, 77, 0) := by decide +kernel
theorem f177_77 : z_fetch 177 77 = some (.goto 0, 80, 3) := by decide +kernel
theorem f177_80 : z_fetch 177 80 = some (.return_, 81, 0) := by decide +kernel
