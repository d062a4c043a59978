theorem f178_0 : z_fetch 178 0 = some (.iconst 0, 1, 0) := by decide +kernel
theorem f178_1 : z_fetch 178 1 = some (.istore 2, 2, 0) := by decide +kernel
theorem f178_2 : z_fetch 178 2 = some (.iload 2, 3, 0) := by decide +kernel
theorem f178_3 : z_fetch 178 3 = some (.aload 0, 4, 0) := by decide +kernel
theorem f178_4 : z_fetch 178 4 = some (.instanceof 11, 7, 25) := by decide +kernel
theorem f178_7 : z_fetch 178 7 = some (.iconst 2, 8, 0) := by decide +kernel
theorem f178_8 : z_fetch 178 8 = some (.iaload, 9, 0) := by decide +kernel
theorem f178_9 : z_fetch 178 9 = some (.if_icmp .ge 0, 12, 86) := by decide +kernel
theorem f178_12 : z_fetch 178 12 = some (.aload 0, 13, 0) := by decide +kernel
theorem f178_13 : z_fetch 178 13 = some (.iload 2, 14, 0) := by decide +kernel
theorem f178_14 : z_fetch 178 14 = some (.iconst 0, 15, 0) := by decide +kernel
theorem f178_15 : z_fetch 178 15 = some (.invokevirtual 156, 18, 0) := by decide +kernel
theorem f178_18 : z_fetch 178 18 = some (.aload 0, 19, 0) := by decide +kernel
theorem f178_19 : z_fetch 178 19 = some (.instanceof 11, 22, 25) := by decide +kernel
theorem f178_22 : z_fetch 178 22 = some (.iconst 3, 23, 0) := by decide +kernel
theorem f178_23 : z_fetch 178 23 = some (.iaload, 24, 0) := by decide +kernel
theorem f178_24 : z_fetch 178 24 = some (.if_icmp .eq 0, 27, 30) := by decide +kernel
theorem f178_27 : z_fetch 178 27 = some (.goto 0, 30, 80) := by decide +kernel
theorem f178_30 : z_fetch 178 30 = some (.aload 0, 31, 0) := by decide +kernel
theorem f178_31 : z_fetch 178 31 = some (.iload 2, 32, 0) := by decide +kernel
theorem f178_32 : z_fetch 178 32 = some (.iconst 1, 33, 0) := by decide +kernel
theorem f178_33 : z_fetch 178 33 = some (.invokevirtual 156, 36, 0) := by decide +kernel
theorem f178_36 : z_fetch 178 36 = some (.istore 3, 37, 0) := by decide +kernel
theorem f178_37 : z_fetch 178 37 = some (.aload 0, 38, 0) := by decide +kernel
theorem f178_38 : z_fetch 178 38 = some (.iload 2, 39, 0) := by decide +kernel
theorem f178_39 : z_fetch 178 39 = some (.iconst 2, 40, 0) := by decide +kernel
theorem f178_40 : z_fetch 178 40 = some (.invokevirtual 156, 43, 0) := by decide +kernel
theorem f178_43 : z_fetch 178 43 = some (.istore 4, 45, 0) := by decide +kernel
theorem f178_45 : z_fetch 178 45 = some (.aload 0, 46, 0) := by decide +kernel
theorem f178_46 : z_fetch 178 46 = some (.iload 3, 47, 0) := by decide +kernel
theorem f178_47 : z_fetch 178 47 = some (.invokevirtual 159, 50, 0) := by decide +kernel
theorem f178_50 : z_fetch 178 50 = some (.istore 5, 52, 0) := by decide +kernel
theorem f178_52 : z_fetch 178 52 = some (.aload 0, 53, 0) := by decide +kernel
theorem f178_53 : z_fetch 178 53 = some (.iload 4, 55, 0) := by decide +kernel
theorem f178_55 : z_fetch 178 55 = some (.invokevirtual 159, 58, 0) := by decide +kernel
theorem f178_58 : z_fetch 178 58 = some (.istore 6, 60, 0) := by decide +kernel
theorem f178_60 : z_fetch 178 60 = some (.aload 0, 61, 0) := by decide +kernel
theorem f178_61 : z_fetch 178 61 = some (.iload 1, 62, 0) := by decide +kernel
theorem f178_62 : z_fetch 178 62 = some (.iload 5, 64, 0) := by decide +kernel
theorem f178_64 : z_fetch 178 64 = some (.iload 3, 65, 0) := by decide +kernel
theorem f178_65 : z_fetch 178 65 = some (.iload 4, 67, 0) := by decide +kernel
theorem f178_67 : z_fetch 178 67 = some (.invokevirtual 177, 70, 0) := by decide +kernel
theorem f178_70 : z_fetch 178 70 = some (.aload 0, 71, 0) := by decide +kernel
theorem f178_71 : z_fetch 178 71 = some (.iload 1, 72, 0) := by decide +kernel
theorem f178_72 : z_fetch 178 72 = some (.iload 6, 74, 0) := by decide +kernel
theorem f178_74 : z_fetch 178 74 = some (.iload 4, 76, 0) := by decide +kernel
theorem f178_76 : z_fetch 178 76 = some (.iload 3, 77, 0) := by decide +kernel
theorem f178_77 : z_fetch 178 77 = some (.invokevirtual 177, 80, 0) := by decide +kernel
theorem f178_80 : z_fetch 178 80 = some (.iinc 2 1, 83, 0) := by decide +kernel
theorem f178_83 : z_fetch 178 83 = some (.goto 0, 86, 2) := by decide +kernel
theorem f178_86 : z_fetch 178 86 = some (.iconst 0, 87, 0) := by decide +kernel
theorem f178_87 : z_fetch 178 87 = some (.istore 2, 88, 0) := by decide +kernel
theorem f178_88 : z_fetch 178 88 = some (.iload 2, 89, 0) := by decide +kernel
theorem f178_89 : z_fetch 178 89 = some (.aload 0, 90, 0) := by decide +kernel
theorem f178_90 : z_fetch 178 90 = some (.instanceof 11, 93, 25) := by decide +kernel
theorem f178_93 : z_fetch 178 93 = some (.iconst 1, 94, 0) := by decide +kernel
theorem f178_94 : z_fetch 178 94 = some (.iaload, 95, 0) := by decide +kernel
theorem f178_95 : z_fetch 178 95 = some (.if_icmp .ge 0, 98, 135) := by decide +kernel
theorem f178_98 : z_fetch 178 98 = some (.aload 0, 99, 0) := by decide +kernel
theorem f178_99 : z_fetch 178 99 = some (.iload 2, 100, 0) := by decide +kernel
theorem f178_100 : z_fetch 178 100 = some (.iload 1, 101, 0) := by decide +kernel
theorem f178_101 : z_fetch 178 101 = some (.invokevirtual 171, 104, 0) := by decide +kernel
theorem f178_104 : z_fetch 178 104 = some (.ifCond .le 0, 107, 110) := by decide +kernel
theorem f178_107 : z_fetch 178 107 = some (.goto 0, 110, 129) := by decide +kernel
theorem f178_110 : z_fetch 178 110 = some (.aload 0, 111, 0) := by decide +kernel
theorem f178_111 : z_fetch 178 111 = some (.iload 2, 112, 0) := by decide +kernel
theorem f178_112 : z_fetch 178 112 = some (.invokevirtual 169, 115, 0) := by decide +kernel
theorem f178_115 : z_fetch 178 115 = some (.aload 0, 116, 0) := by decide +kernel
theorem f178_116 : z_fetch 178 116 = some (.iload 1, 117, 0) := by decide +kernel
theorem f178_117 : z_fetch 178 117 = some (.iconst 2, 118, 0) := by decide +kernel
theorem f178_118 : z_fetch 178 118 = some (.invokevirtual 166, 121, 0) := by decide +kernel
theorem f178_121 : z_fetch 178 121 = some (.ifCond .eq 0, 124, 129) := by decide +kernel
theorem f178_124 : z_fetch 178 124 = some (.aload 0, 125, 0) := by decide +kernel
theorem f178_125 : z_fetch 178 125 = some (.iload 2, 126, 0) := by decide +kernel
theorem f178_126 : z_fetch 178 126 = some (.invokevirtual 173, 129, 0) := by decide +kernel
theorem f178_129 : z_fetch 178 129 = some (.iinc 2 1, 132, 0) := by decide +kernel
theorem f178_132 : z_fetch 178 132 = some (.goto 0, 135, 88) := by decide +kernel
theorem f178_135 : z_fetch 178 135 = some (.aload 0, 136, 0) := by decide +kernel
theorem f178_136 : z_fetch 178 136 = some (.instanceof 11, 139, 25) := by decide +kernel
theorem f178_139 : z_fetch 178 139 = some (.iconst 3, 140, 0) := by decide +kernel
theorem f178_140 : z_fetch 178 140 = some (.dup2, 141, 0) := by decide +kernel
theorem f178_141 : z_fetch 178 141 = some (.iaload, 142, 0) := by decide +kernel
theorem f178_142 : z_fetch 178 142 = some (.iconst 1, 143, 0) := by decide +kernel
theorem f178_143 : z_fetch 178 143 = some (.iadd, 144, 0) := by decide +kernel
theorem f178_144 : z_fetch 178 144 = some (.iastore, 145, 0) := by decide +kernel
theorem f178_145 : z_fetch 178 145 = some (.return_, 146, 0) := by decide +kernel
theorem f179_0 : z_fetch 179 0 = some (.aload 0, 1, 0) := by decide +kernel
theorem f179_1 : z_fetch 179 1 = some (.instanceof 11, 4, 25) := by decide +kernel
theorem f179_4 : z_fetch 179 4 = some (.iconst 0, 5, 0) := by decide +kernel
theorem f179_5 : z_fetch 179 5 = some (.iaload, 6, 0) := by decide +kernel
theorem f179_6 : z_fetch 179 6 = some (.ifCond .eq 0, 9, 43) := by decide +kernel
theorem f179_9 : z_fetch 179 9 = some (.aload 0, 10, 0) := by decide +kernel
theorem f179_10 : z_fetch 179 10 = some (.iload 1, 11, 0) := by decide +kernel
theorem f179_11 : z_fetch 179 11 = some (.invokevirtual 148, 14, 0) := by decide +kernel
theorem f179_14 : z_fetch 179 14 = some (.ifCond .eq 0, 17, 43) := by decide +kernel
theorem f179_17 : z_fetch 179 17 = some (.iload 2, 18, 0) := by decide +kernel
theorem f179_18 : z_fetch 179 18 = some (.i2l, 19, 0) := by decide +kernel
theorem f179_19 : z_fetch 179 19 = some (.goto_w 1, 20, 0) := by decide +kernel
theorem f179_20 : z_fetch 179 20 = some (.goto_w 400, 23, 0) := by decide +kernel
theorem f179_23 : z_fetch 179 23 = some (.invokestatic 110, 26, 0) := by decide +kernel
theorem f179_26 : z_fetch 179 26 = some (.ifCond .eq 0, 29, 43) := by decide +kernel
theorem f179_29 : z_fetch 179 29 = some (.aload 0, 30, 0) := by decide +kernel
theorem f179_30 : z_fetch 179 30 = some (.instanceof 11, 33, 25) := by decide +kernel
theorem f179_33 : z_fetch 179 33 = some (.iconst 3, 34, 0) := by decide +kernel
theorem f179_34 : z_fetch 179 34 = some (.iaload, 35, 0) := by decide +kernel
theorem f179_35 : z_fetch 179 35 = some (.iload 2, 36, 0) := by decide +kernel
theorem f179_36 : z_fetch 179 36 = some (.iadd, 37, 0) := by decide +kernel
theorem f179_37 : z_fetch 179 37 = some (.iconst 19999, 40, 0) := by decide +kernel
theorem f179_40 : z_fetch 179 40 = some (.if_icmp .le 0, 43, 45) := by decide +kernel
theorem f179_43 : z_fetch 179 43 = some (.iconst (-1), 44, 0) := by decide +kernel
theorem f179_44 : z_fetch 179 44 = some (.ireturn, 45, 0) := by decide +kernel
theorem f179_45 : z_fetch 179 45 = some (.iconst 0, 46, 0) := by decide +kernel
theorem f179_46 : z_fetch 179 46 = some (.istore 3, 47, 0) := by decide +kernel
theorem f179_47 : z_fetch 179 47 = some (.iload 3, 48, 0) := by decide +kernel
theorem f179_48 : z_fetch 179 48 = some (.iload 2, 49, 0) := by decide +kernel
theorem f179_49 : z_fetch 179 49 = some (.if_icmp .ge 0, 52, 63) := by decide +kernel
theorem f179_52 : z_fetch 179 52 = some (.aload 0, 53, 0) := by decide +kernel
theorem f179_53 : z_fetch 179 53 = some (.iload 1, 54, 0) := by decide +kernel
theorem f179_54 : z_fetch 179 54 = some (.invokevirtual 178, 57, 0) := by decide +kernel
theorem f179_57 : z_fetch 179 57 = some (.iinc 3 1, 60, 0) := by decide +kernel
theorem f179_60 : z_fetch 179 60 = some (.goto 0, 63, 47) := by decide +kernel
theorem f179_63 : z_fetch 179 63 = some (.aload 0, 64, 0) := by decide +kernel
theorem f179_64 : z_fetch 179 64 = some (.instanceof 11, 67, 25) := by decide +kernel
theorem f179_67 : z_fetch 179 67 = some (.iconst 3, 68, 0) := by decide +kernel
theorem f179_68 : z_fetch 179 68 = some (.iaload, 69, 0) := by decide +kernel
theorem f179_69 : z_fetch 179 69 = some (.ireturn, 70, 0) := by decide +kernel
theorem f180_0 : z_fetch 180 0 = some (.iconst 0, 1, 0) := by decide +kernel
theorem f180_1 : z_fetch 180 1 = some (.istore 1, 2, 0) := by decide +kernel
theorem f180_2 : z_fetch 180 2 = some (.iload 1, 3, 0) := by decide +kernel
theorem f180_3 : z_fetch 180 3 = some (.iconst 139, 6, 0) := by decide +kernel
theorem f180_6 : z_fetch 180 6 = some (.if_icmp .ge 0, 9, 27) := by decide +kernel
theorem f180_9 : z_fetch 180 9 = some (.aload 0, 10, 0) := by decide +kernel
theorem f180_10 : z_fetch 180 10 = some (.instanceof 11, 13, 27) := by decide +kernel
theorem f180_13 : z_fetch 180 13 = some (.iload 1, 14, 0) := by decide +kernel
theorem f180_14 : z_fetch 180 14 = some (.aload 0, 15, 0) := by decide +kernel
theorem f180_15 : z_fetch 180 15 = some (.instanceof 11, 18, 25) := by decide +kernel
theorem f180_18 : z_fetch 180 18 = some (.iload 1, 19, 0) := by decide +kernel
theorem f180_19 : z_fetch 180 19 = some (.iaload, 20, 0) := by decide +kernel
theorem f180_20 : z_fetch 180 20 = some (.iastore, 21, 0) := by decide +kernel
theorem f180_21 : z_fetch 180 21 = some (.iinc 1 1, 24, 0) := by decide +kernel
theorem f180_24 : z_fetch 180 24 = some (.goto 0, 27, 2) := by decide +kernel
theorem f180_27 : z_fetch 180 27 = some (.return_, 28, 0) := by decide +kernel
theorem f181_0 : z_fetch 181 0 = some (.iconst 0, 1, 0) := by decide +kernel
theorem f181_1 : z_fetch 181 1 = some (.istore 1, 2, 0) := by decide +kernel
theorem f181_2 : z_fetch 181 2 = some (.iload 1, 3, 0) := by decide +kernel
theorem f181_3 : z_fetch 181 3 = some (.iconst 139, 6, 0) := by decide +kernel
theorem f181_6 : z_fetch 181 6 = some (.if_icmp .ge 0, 9, 27) := by decide +kernel
theorem f181_9 : z_fetch 181 9 = some (.aload 0, 10, 0) := by decide +kernel
theorem f181_10 : z_fetch 181 10 = some (.instanceof 11, 13, 25) := by decide +kernel
theorem f181_13 : z_fetch 181 13 = some (.iload 1, 14, 0) := by decide +kernel
theorem f181_14 : z_fetch 181 14 = some (.aload 0, 15, 0) := by decide +kernel
theorem f181_15 : z_fetch 181 15 = some (.instanceof 11, 18, 27) := by decide +kernel
theorem f181_18 : z_fetch 181 18 = some (.iload 1, 19, 0) := by decide +kernel
theorem f181_19 : z_fetch 181 19 = some (.iaload, 20, 0) := by decide +kernel
theorem f181_20 : z_fetch 181 20 = some (.iastore, 21, 0) := by decide +kernel
theorem f181_21 : z_fetch 181 21 = some (.iinc 1 1, 24, 0) := by decide +kernel
theorem f181_24 : z_fetch 181 24 = some (.goto 0, 27, 2) := by decide +kernel
theorem f181_27 : z_fetch 181 27 = some (.return_, 28, 0) := by decide +kernel
theorem f182_0 : z_fetch 182 0 = some (.aload 0, 1, 0) := by decide +kernel
theorem f182_1 : z_fetch 182 1 = some (.instanceof 11, 4, 25) := by decide +kernel
theorem f182_4 : z_fetch 182 4 = some (.iconst 0, 5, 0) := by decide +kernel
theorem f182_5 : z_fetch 182 5 = some (.iaload, 6, 0) := by decide +kernel
theorem f182_6 : z_fetch 182 6 = some (.ifCond .eq 0, 9, 41) := by decide +kernel
theorem f182_9 : z_fetch 182 9 = some (.aload 0, 10, 0) := by decide +kernel
theorem f182_10 : z_fetch 182 10 = some (.iload 1, 11, 0) := by decide +kernel
theorem f182_11 : z_fetch 182 11 = some (.invokevirtual 148, 14, 0) := by decide +kernel
theorem f182_14 : z_fetch 182 14 = some (.ifCond .eq 0, 17, 41) := by decide +kernel
theorem f182_17 : z_fetch 182 17 = some (.iload 2, 18, 0) := by decide +kernel
theorem f182_18 : z_fetch 182 18 = some (.i2l, 19, 0) := by decide +kernel
theorem f182_19 : z_fetch 182 19 = some (.goto_w 0, 20, 0) := by decide +kernel
theorem f182_20 : z_fetch 182 20 = some (.goto_w 400, 23, 0) := by decide +kernel
theorem f182_23 : z_fetch 182 23 = some (.invokestatic 110, 26, 0) := by decide +kernel
theorem f182_26 : z_fetch 182 26 = some (.ifCond .eq 0, 29, 41) := by decide +kernel
theorem f182_29 : z_fetch 182 29 = some (.iload 3, 30, 0) := by decide +kernel
theorem f182_30 : z_fetch 182 30 = some (.i2l, 31, 0) := by decide +kernel
theorem f182_31 : z_fetch 182 31 = some (.goto_w 0, 32, 0) := by decide +kernel
theorem f182_32 : z_fetch 182 32 = some (.goto_w 2, 35, 0) := by decide +kernel
theorem f182_35 : z_fetch 182 35 = some (.invokestatic 110, 38, 0) := by decide +kernel
theorem f182_38 : z_fetch 182 38 = some (.ifCond .ne 0, 41, 43) := by decide +kernel
theorem f182_41 : z_fetch 182 41 = some (.iconst (-1), 42, 0) := by decide +kernel
theorem f182_42 : z_fetch 182 42 = some (.ireturn, 43, 0) := by decide +kernel
theorem f182_43 : z_fetch 182 43 = some (.aload 0, 44, 0) := by decide +kernel
theorem f182_44 : z_fetch 182 44 = some (.invokevirtual 180, 47, 0) := by decide +kernel
theorem f182_47 : z_fetch 182 47 = some (.aload 0, 48, 0) := by decide +kernel
theorem f182_48 : z_fetch 182 48 = some (.iconst 0, 49, 0) := by decide +kernel
theorem f182_49 : z_fetch 182 49 = some (.putfield 11, 52, 26) := by decide +kernel
theorem f182_52 : z_fetch 182 52 = some (.iconst 0, 53, 0) := by decide +kernel
theorem f182_53 : z_fetch 182 53 = some (.istore 4, 55, 0) := by decide +kernel
theorem f182_55 : z_fetch 182 55 = some (.iload 4, 57, 0) := by decide +kernel
theorem f182_57 : z_fetch 182 57 = some (.iload 2, 58, 0) := by decide +kernel
theorem f182_58 : z_fetch 182 58 = some (.if_icmp .ge 0, 61, 72) := by decide +kernel
theorem f182_61 : z_fetch 182 61 = some (.aload 0, 62, 0) := by decide +kernel
theorem f182_62 : z_fetch 182 62 = some (.iload 1, 63, 0) := by decide +kernel
theorem f182_63 : z_fetch 182 63 = some (.invokevirtual 178, 66, 0) := by decide +kernel
theorem f182_66 : z_fetch 182 66 = some (.iinc 4 1, 69, 0) := by decide +kernel
theorem f182_69 : z_fetch 182 69 = some (.goto 0, 72, 55) := by decide +kernel
theorem f182_72 : z_fetch 182 72 = some (.iload 3, 73, 0) := by decide +kernel
theorem f182_73 : z_fetch 182 73 = some (.ifCond .ne 0, 76, 92) := by decide +kernel
theorem f182_76 : z_fetch 182 76 = some (.aload 0, 77, 0) := by decide +kernel
theorem f182_77 : z_fetch 182 77 = some (.instanceof 11, 80, 25) := by decide +kernel
theorem f182_80 : z_fetch 182 80 = some (.iconst 4, 81, 0) := by decide +kernel
theorem f182_81 : z_fetch 182 81 = some (.iaload, 82, 0) := by decide +kernel
theorem f182_82 : z_fetch 182 82 = some (.aload 0, 83, 0) := by decide +kernel
theorem f182_83 : z_fetch 182 83 = some (.instanceof 11, 86, 27) := by decide +kernel
theorem f182_86 : z_fetch 182 86 = some (.iconst 4, 87, 0) := by decide +kernel
theorem f182_87 : z_fetch 182 87 = some (.iaload, 88, 0) := by decide +kernel
theorem f182_88 : z_fetch 182 88 = some (.isub, 89, 0) := by decide +kernel
theorem f182_89 : z_fetch 182 89 = some (.goto 0, 92, 108) := by decide +kernel
theorem f182_92 : z_fetch 182 92 = some (.iload 3, 93, 0) := by decide +kernel
theorem f182_93 : z_fetch 182 93 = some (.iconst 1, 94, 0) := by decide +kernel
theorem f182_94 : z_fetch 182 94 = some (.if_icmp .ne 0, 97, 104) := by decide +kernel
theorem f182_97 : z_fetch 182 97 = some (.aload 0, 98, 0) := by decide +kernel
theorem f182_98 : z_fetch 182 98 = some (.invokevirtual 158, 101, 0) := by decide +kernel
theorem f182_101 : z_fetch 182 101 = some (.goto 0, 104, 108) := by decide +kernel
theorem f182_104 : z_fetch 182 104 = some (.aload 0, 105, 0) := by decide +kernel
theorem f182_105 : z_fetch 182 105 = some (.getfield 11, 108, 26) := by decide +kernel
theorem f182_108 : z_fetch 182 108 = some (.istore 4, 110, 0) := by decide +kernel
theorem f182_110 : z_fetch 182 110 = some (.aload 0, 111, 0) := by decide +kernel
theorem f182_111 : z_fetch 182 111 = some (.invokevirtual 181, 114, 0) := by decide +kernel
theorem f182_114 : z_fetch 182 114 = some (.iload 4, 116, 0) := by decide +kernel
theorem f182_116 : z_fetch 182 116 = some (.ireturn, 117, 0) := by decide +kernel
theorem f183_0 : z_fetch 183 0 = some (.aload 0, 1, 0) := by decide +kernel
theorem f183_1 : z_fetch 183 1 = some (.iconst 0, 2, 0) := by decide +kernel
theorem f183_2 : z_fetch 183 2 = some (.putfield 11, 5, 29) := by decide +kernel
theorem f183_5 : z_fetch 183 5 = some (.iconst 0, 6, 0) := by decide +kernel
theorem f183_6 : z_fetch 183 6 = some (.istore 3, 7, 0) := by decide +kernel
theorem f183_7 : z_fetch 183 7 = some (.iload 3, 8, 0) := by decide +kernel
theorem f183_8 : z_fetch 183 8 = some (.aload 0, 9, 0) := by decide +kernel
theorem f183_9 : z_fetch 183 9 = some (.instanceof 11, 12, 25) := by decide +kernel
theorem f183_12 : z_fetch 183 12 = some (.iconst 2, 13, 0) := by decide +kernel
theorem f183_13 : z_fetch 183 13 = some (.iaload, 14, 0) := by decide +kernel
theorem f183_14 : z_fetch 183 14 = some (.if_icmp .ge 0, 17, 118) := by decide +kernel
theorem f183_17 : z_fetch 183 17 = some (.aload 0, 18, 0) := by decide +kernel
theorem f183_18 : z_fetch 183 18 = some (.iload 3, 19, 0) := by decide +kernel
theorem f183_19 : z_fetch 183 19 = some (.iconst 0, 20, 0) := by decide +kernel
theorem f183_20 : z_fetch 183 20 = some (.invokevirtual 156, 23, 0) := by decide +kernel
theorem f183_23 : z_fetch 183 23 = some (.iload 1, 24, 0) := by decide +kernel
theorem f183_24 : z_fetch 183 24 = some (.if_icmp .lt 0, 27, 112) := by decide +kernel
theorem f183_27 : z_fetch 183 27 = some (.iload 2, 28, 0) := by decide +kernel
theorem f183_28 : z_fetch 183 28 = some (.iload 3, 29, 0) := by decide +kernel
theorem f183_29 : z_fetch 183 29 = some (.invokestatic 111, 32, 0) := by decide +kernel
theorem f183_32 : z_fetch 183 32 = some (.ifCond .eq 0, 35, 38) := by decide +kernel
theorem f183_35 : z_fetch 183 35 = some (.goto 0, 38, 112) := by decide +kernel
theorem f183_38 : z_fetch 183 38 = some (.aload 0, 39, 0) := by decide +kernel
theorem f183_39 : z_fetch 183 39 = some (.getfield 11, 42, 29) := by decide +kernel
theorem f183_42 : z_fetch 183 42 = some (.istore 4, 44, 0) := by decide +kernel
theorem f183_44 : z_fetch 183 44 = some (.iload 4, 46, 0) := by decide +kernel
theorem f183_46 : z_fetch 183 46 = some (.ifCond .le 0, 49, 94) := by decide +kernel
theorem f183_49 : z_fetch 183 49 = some (.aload 0, 50, 0) := by decide +kernel
theorem f183_50 : z_fetch 183 50 = some (.aload 0, 51, 0) := by decide +kernel
theorem f183_51 : z_fetch 183 51 = some (.instanceof 11, 54, 28) := by decide +kernel
theorem f183_54 : z_fetch 183 54 = some (.iload 4, 56, 0) := by decide +kernel
theorem f183_56 : z_fetch 183 56 = some (.iconst 1, 57, 0) := by decide +kernel
theorem f183_57 : z_fetch 183 57 = some (.isub, 58, 0) := by decide +kernel
theorem f183_58 : z_fetch 183 58 = some (.iaload, 59, 0) := by decide +kernel
theorem f183_59 : z_fetch 183 59 = some (.iconst 0, 60, 0) := by decide +kernel
theorem f183_60 : z_fetch 183 60 = some (.invokevirtual 156, 63, 0) := by decide +kernel
theorem f183_63 : z_fetch 183 63 = some (.aload 0, 64, 0) := by decide +kernel
theorem f183_64 : z_fetch 183 64 = some (.iload 3, 65, 0) := by decide +kernel
theorem f183_65 : z_fetch 183 65 = some (.iconst 0, 66, 0) := by decide +kernel
theorem f183_66 : z_fetch 183 66 = some (.invokevirtual 156, 69, 0) := by decide +kernel
theorem f183_69 : z_fetch 183 69 = some (.if_icmp .le 0, 72, 94) := by decide +kernel
theorem f183_72 : z_fetch 183 72 = some (.aload 0, 73, 0) := by decide +kernel
theorem f183_73 : z_fetch 183 73 = some (.instanceof 11, 76, 28) := by decide +kernel
theorem f183_76 : z_fetch 183 76 = some (.iload 4, 78, 0) := by decide +kernel
theorem f183_78 : z_fetch 183 78 = some (.aload 0, 79, 0) := by decide +kernel
theorem f183_79 : z_fetch 183 79 = some (.instanceof 11, 82, 28) := by decide +kernel
theorem f183_82 : z_fetch 183 82 = some (.iload 4, 84, 0) := by decide +kernel
theorem f183_84 : z_fetch 183 84 = some (.iconst 1, 85, 0) := by decide +kernel
theorem f183_85 : z_fetch 183 85 = some (.isub, 86, 0) := by decide +kernel
theorem f183_86 : z_fetch 183 86 = some (.iaload, 87, 0) := by decide +kernel
theorem f183_87 : z_fetch 183 87 = some (.iastore, 88, 0) := by decide +kernel
theorem f183_88 : z_fetch 183 88 = some (.iinc 4 (-1), 91, 0) := by decide +kernel
theorem f183_91 : z_fetch 183 91 = some (.goto 0, 94, 44) := by decide +kernel
theorem f183_94 : z_fetch 183 94 = some (.aload 0, 95, 0) := by decide +kernel
theorem f183_95 : z_fetch 183 95 = some (.instanceof 11, 98, 28) := by decide +kernel
theorem f183_98 : z_fetch 183 98 = some (.iload 4, 100, 0) := by decide +kernel
theorem f183_100 : z_fetch 183 100 = some (.iload 3, 101, 0) := by decide +kernel
theorem f183_101 : z_fetch 183 101 = some (.iastore, 102, 0) := by decide +kernel
theorem f183_102 : z_fetch 183 102 = some (.aload 0, 103, 0) := by decide +kernel
theorem f183_103 : z_fetch 183 103 = some (.dup, 104, 0) := by decide +kernel
theorem f183_104 : z_fetch 183 104 = some (.getfield 11, 107, 29) := by decide +kernel
theorem f183_107 : z_fetch 183 107 = some (.iconst 1, 108, 0) := by decide +kernel
theorem f183_108 : z_fetch 183 108 = some (.iadd, 109, 0) := by decide +kernel
theorem f183_109 : z_fetch 183 109 = some (.putfield 11, 112, 29) := by decide +kernel
theorem f183_112 : z_fetch 183 112 = some (.iinc 3 1, 115, 0) := by decide +kernel
theorem f183_115 : z_fetch 183 115 = some (.goto 0, 118, 7) := by decide +kernel
theorem f183_118 : z_fetch 183 118 = some (.return_, 119, 0) := by decide +kernel
theorem f184_0 : z_fetch 184 0 = some (.iload 7, 2, 0) := by decide +kernel
theorem f184_2 : z_fetch 184 2 = some (.iconst 1000000, 5, 0) := by decide +kernel
theorem f184_5 : z_fetch 184 5 = some (.if_icmp .ne 0, 8, 9) := by decide +kernel
theorem f184_8 : z_fetch 184 8 = some (.return_, 9, 0) := by decide +kernel
theorem f184_9 : z_fetch 184 9 = some (.aload 0, 10, 0) := by decide +kernel
theorem f184_10 : z_fetch 184 10 = some (.iload 1, 11, 0) := by decide +kernel
theorem f184_11 : z_fetch 184 11 = some (.iload 2, 12, 0) := by decide +kernel
theorem f184_12 : z_fetch 184 12 = some (.iload 8, 14, 0) := by decide +kernel
theorem f184_14 : z_fetch 184 14 = some (.iload 3, 15, 0) := by decide +kernel
theorem f184_15 : z_fetch 184 15 = some (.isub, 16, 0) := by decide +kernel
theorem f184_16 : z_fetch 184 16 = some (.iload 4, 18, 0) := by decide +kernel
theorem f184_18 : z_fetch 184 18 = some (.iload 4, 20, 0) := by decide +kernel
theorem f184_20 : z_fetch 184 20 = some (.iload 6, 22, 0) := by decide +kernel
theorem f184_22 : z_fetch 184 22 = some (.invokestatic 111, 25, 0) := by decide +kernel
theorem f184_25 : z_fetch 184 25 = some (.ifCond .ne 0, 28, 32) := by decide +kernel
theorem f184_28 : z_fetch 184 28 = some (.iconst 1, 29, 0) := by decide +kernel
theorem f184_29 : z_fetch 184 29 = some (.goto 0, 32, 33) := by decide +kernel
theorem f184_32 : z_fetch 184 32 = some (.iconst 0, 33, 0) := by decide +kernel
theorem f184_33 : z_fetch 184 33 = some (.iload 5, 35, 0) := by decide +kernel
theorem f184_35 : z_fetch 184 35 = some (.iload 6, 37, 0) := by decide +kernel
theorem f184_37 : z_fetch 184 37 = some (.iload 8, 39, 0) := by decide +kernel
theorem f184_39 : z_fetch 184 39 = some (.invokevirtual 165, 42, 0) := by decide +kernel
theorem f184_42 : z_fetch 184 42 = some (.aload 0, 43, 0) := by decide +kernel
theorem f184_43 : z_fetch 184 43 = some (.aload 0, 44, 0) := by decide +kernel
theorem f184_44 : z_fetch 184 44 = some (.instanceof 11, 47, 25) := by decide +kernel
theorem f184_47 : z_fetch 184 47 = some (.iconst 6, 49, 0) := by decide +kernel
theorem f184_49 : z_fetch 184 49 = some (.iaload, 50, 0) := by decide +kernel
theorem f184_50 : z_fetch 184 50 = some (.invokevirtual 167, 53, 0) := by decide +kernel
theorem f184_53 : z_fetch 184 53 = some (.ifCond .eq 0, 56, 57) := by decide +kernel
theorem f184_56 : z_fetch 184 56 = some (.return_, 57, 0) := by decide +kernel
theorem f184_57 : z_fetch 184 57 = some (.iload 4, 59, 0) := by decide +kernel
theorem f184_59 : z_fetch 184 59 = some (.iload 6, 61, 0) := by decide +kernel
theorem f184_61 : z_fetch 184 61 = some (.invokestatic 111, 64, 0) := by decide +kernel
theorem f184_64 : z_fetch 184 64 = some (.ifCond .eq 0, 67, 116) := by decide +kernel
theorem f184_67 : z_fetch 184 67 = some (.aload 0, 68, 0) := by decide +kernel
theorem f184_68 : z_fetch 184 68 = some (.dup, 69, 0) := by decide +kernel
theorem f184_69 : z_fetch 184 69 = some (.getfield 11, 72, 31) := by decide +kernel
theorem f184_72 : z_fetch 184 72 = some (.iconst 1, 73, 0) := by decide +kernel
theorem f184_73 : z_fetch 184 73 = some (.iload 6, 75, 0) := by decide +kernel
theorem f184_75 : z_fetch 184 75 = some (.ishl, 76, 0) := by decide +kernel
theorem f184_76 : z_fetch 184 76 = some (.ior, 77, 0) := by decide +kernel
theorem f184_77 : z_fetch 184 77 = some (.putfield 11, 80, 31) := by decide +kernel
theorem f184_80 : z_fetch 184 80 = some (.aload 0, 81, 0) := by decide +kernel
theorem f184_81 : z_fetch 184 81 = some (.instanceof 11, 84, 30) := by decide +kernel
theorem f184_84 : z_fetch 184 84 = some (.iload 6, 86, 0) := by decide +kernel
theorem f184_86 : z_fetch 184 86 = some (.iload 7, 88, 0) := by decide +kernel
theorem f184_88 : z_fetch 184 88 = some (.iconst 1, 89, 0) := by decide +kernel
theorem f184_89 : z_fetch 184 89 = some (.iadd, 90, 0) := by decide +kernel
theorem f184_90 : z_fetch 184 90 = some (.aload 0, 91, 0) := by decide +kernel
theorem f184_91 : z_fetch 184 91 = some (.instanceof 11, 94, 30) := by decide +kernel
theorem f184_94 : z_fetch 184 94 = some (.iload 6, 96, 0) := by decide +kernel
theorem f184_96 : z_fetch 184 96 = some (.iaload, 97, 0) := by decide +kernel
theorem f184_97 : z_fetch 184 97 = some (.if_icmp .ge 0, 100, 107) := by decide +kernel
theorem f184_100 : z_fetch 184 100 = some (.iload 7, 102, 0) := by decide +kernel
theorem f184_102 : z_fetch 184 102 = some (.iconst 1, 103, 0) := by decide +kernel
theorem f184_103 : z_fetch 184 103 = some (.iadd, 104, 0) := by decide +kernel
theorem f184_104 : z_fetch 184 104 = some (.goto 0, 107, 114) := by decide +kernel
theorem f184_107 : z_fetch 184 107 = some (.aload 0, 108, 0) := by decide +kernel
theorem f184_108 : z_fetch 184 108 = some (.instanceof 11, 111, 30) := by decide +kernel
theorem f184_111 : z_fetch 184 111 = some (.iload 6, 113, 0) := by decide +kernel
theorem f184_113 : z_fetch 184 113 = some (.iaload, 114, 0) := by decide +kernel
theorem f184_114 : z_fetch 184 114 = some (.iastore, 115, 0) := by decide +kernel
theorem f184_115 : z_fetch 184 115 = some (.return_, 116, 0) := by decide +kernel
theorem f184_116 : z_fetch 184 116 = some (.aload 0, 117, 0) := by decide +kernel
theorem f184_117 : z_fetch 184 117 = some (.iload 1, 118, 0) := by decide +kernel
theorem f184_118 : z_fetch 184 118 = some (.iload 2, 119, 0) := by decide +kernel
theorem f184_119 : z_fetch 184 119 = some (.iload 8, 121, 0) := by decide +kernel
theorem f184_121 : z_fetch 184 121 = some (.iload 3, 122, 0) := by decide +kernel
theorem f184_122 : z_fetch 184 122 = some (.isub, 123, 0) := by decide +kernel
theorem f184_123 : z_fetch 184 123 = some (.iload 4, 125, 0) := by decide +kernel
theorem f184_125 : z_fetch 184 125 = some (.iconst 1, 126, 0) := by decide +kernel
theorem f184_126 : z_fetch 184 126 = some (.iload 6, 128, 0) := by decide +kernel
theorem f184_128 : z_fetch 184 128 = some (.ishl, 129, 0) := by decide +kernel
theorem f184_129 : z_fetch 184 129 = some (.ior, 130, 0) := by decide +kernel
theorem f184_130 : z_fetch 184 130 = some (.iconst 1, 131, 0) := by decide +kernel
theorem f184_131 : z_fetch 184 131 = some (.iload 6, 133, 0) := by decide +kernel
theorem f184_133 : z_fetch 184 133 = some (.iload 6, 135, 0) := by decide +kernel
theorem f184_135 : z_fetch 184 135 = some (.iload 8, 137, 0) := by decide +kernel
theorem f184_137 : z_fetch 184 137 = some (.invokevirtual 165, 140, 0) := by decide +kernel
theorem f184_140 : z_fetch 184 140 = some (.aload 0, 141, 0) := by decide +kernel
theorem f184_141 : z_fetch 184 141 = some (.aload 0, 142, 0) := by decide +kernel
theorem f184_142 : z_fetch 184 142 = some (.instanceof 11, 145, 25) := by decide +kernel
theorem f184_145 : z_fetch 184 145 = some (.iconst 6, 147, 0) := by decide +kernel
theorem f184_147 : z_fetch 184 147 = some (.iaload, 148, 0) := by decide +kernel
theorem f184_148 : z_fetch 184 148 = some (.invokevirtual 167, 151, 0) := by decide +kernel
theorem f184_151 : z_fetch 184 151 = some (.ifCond .eq 0, 154, 155) := by decide +kernel
theorem f184_154 : z_fetch 184 154 = some (.return_, 155, 0) := by decide +kernel
theorem f184_155 : z_fetch 184 155 = some (.aload 0, 156, 0) := by decide +kernel
theorem f184_156 : z_fetch 184 156 = some (.aload 0, 157, 0) := by decide +kernel
theorem f184_157 : z_fetch 184 157 = some (.getfield 11, 160, 32) := by decide +kernel
theorem f184_160 : z_fetch 184 160 = some (.ifCond .ge 0, 163, 168) := by decide +kernel
theorem f184_163 : z_fetch 184 163 = some (.iload 8, 165, 0) := by decide +kernel
theorem f184_165 : z_fetch 184 165 = some (.goto 0, 168, 172) := by decide +kernel
theorem f184_168 : z_fetch 184 168 = some (.aload 0, 169, 0) := by decide +kernel
theorem f184_169 : z_fetch 184 169 = some (.getfield 11, 172, 32) := by decide +kernel
theorem f184_172 : z_fetch 184 172 = some (.putfield 11, 175, 32) := by decide +kernel
theorem f184_175 : z_fetch 184 175 = some (.aload 0, 176, 0) := by decide +kernel
theorem f184_176 : z_fetch 184 176 = some (.iload 7, 178, 0) := by decide +kernel
theorem f184_178 : z_fetch 184 178 = some (.iconst 1, 179, 0) := by decide +kernel
theorem f184_179 : z_fetch 184 179 = some (.iadd, 180, 0) := by decide +kernel
theorem f184_180 : z_fetch 184 180 = some (.aload 0, 181, 0) := by decide +kernel
theorem f184_181 : z_fetch 184 181 = some (.getfield 11, 184, 33) := by decide +kernel
theorem f184_184 : z_fetch 184 184 = some (.if_icmp .ge 0, 187, 194) := by decide +kernel
theorem f184_187 : z_fetch 184 187 = some (.iload 7, 189, 0) := by decide +kernel
theorem f184_189 : z_fetch 184 189 = some (.iconst 1, 190, 0) := by decide +kernel
theorem f184_190 : z_fetch 184 190 = some (.iadd, 191, 0) := by decide +kernel
theorem f184_191 : z_fetch 184 191 = some (.goto 0, 194, 198) := by decide +kernel
theorem f184_194 : z_fetch 184 194 = some (.aload 0, 195, 0) := by decide +kernel
theorem f184_195 : z_fetch 184 195 = some (.getfield 11, 198, 33) := by decide +kernel
theorem f184_198 : z_fetch 184 198 = some (.putfield 11, 201, 33) := by decide +kernel
theorem f184_201 : z_fetch 184 201 = some (.return_, 202, 0) := by decide +kernel
theorem f185_0 : z_fetch 185 0 = some (.aload 0, 1, 0) := by decide +kernel
theorem f185_1 : z_fetch 185 1 = some (.iconst (-2), 3, 0) := by decide +kernel
theorem f185_3 : z_fetch 185 3 = some (.putfield 11, 6, 32) := by decide +kernel
theorem f185_6 : z_fetch 185 6 = some (.aload 0, 7, 0) := by decide +kernel
theorem f185_7 : z_fetch 185 7 = some (.iconst 1000000, 10, 0) := by decide +kernel
theorem f185_10 : z_fetch 185 10 = some (.putfield 11, 13, 33) := by decide +kernel
theorem f185_13 : z_fetch 185 13 = some (.aload 0, 14, 0) := by decide +kernel
theorem f185_14 : z_fetch 185 14 = some (.iconst 1, 15, 0) := by decide +kernel
theorem f185_15 : z_fetch 185 15 = some (.iload 3, 16, 0) := by decide +kernel
theorem f185_16 : z_fetch 185 16 = some (.ishl, 17, 0) := by decide +kernel
theorem f185_17 : z_fetch 185 17 = some (.putfield 11, 20, 31) := by decide +kernel
theorem f185_20 : z_fetch 185 20 = some (.iconst 0, 21, 0) := by decide +kernel
theorem f185_21 : z_fetch 185 21 = some (.istore 9, 23, 0) := by decide +kernel
theorem f185_23 : z_fetch 185 23 = some (.iload 9, 25, 0) := by decide +kernel
theorem f185_25 : z_fetch 185 25 = some (.iconst 10, 27, 0) := by decide +kernel
theorem f185_27 : z_fetch 185 27 = some (.if_icmp .ge 0, 30, 56) := by decide +kernel
theorem f185_30 : z_fetch 185 30 = some (.aload 0, 31, 0) := by decide +kernel
theorem f185_31 : z_fetch 185 31 = some (.instanceof 11, 34, 30) := by decide +kernel
theorem f185_34 : z_fetch 185 34 = some (.iload 9, 36, 0) := by decide +kernel
theorem f185_36 : z_fetch 185 36 = some (.iload 9, 38, 0) := by decide +kernel
theorem f185_38 : z_fetch 185 38 = some (.iload 3, 39, 0) := by decide +kernel
theorem f185_39 : z_fetch 185 39 = some (.if_icmp .ne 0, 42, 46) := by decide +kernel
theorem f185_42 : z_fetch 185 42 = some (.iconst 0, 43, 0) := by decide +kernel
theorem f185_43 : z_fetch 185 43 = some (.goto 0, 46, 49) := by decide +kernel
theorem f185_46 : z_fetch 185 46 = some (.iconst 1000000, 49, 0) := by decide +kernel
theorem f185_49 : z_fetch 185 49 = some (.iastore, 50, 0) := by decide +kernel
theorem f185_50 : z_fetch 185 50 = some (.iinc 9 1, 53, 0) := by decide +kernel
theorem f185_53 : z_fetch 185 53 = some (.goto 0, 56, 23) := by decide +kernel
theorem f185_56 : z_fetch 185 56 = some (.iload 7, 58, 0) := by decide +kernel
theorem f185_58 : z_fetch 185 58 = some (.iload 4, 60, 0) := by decide +kernel
theorem f185_60 : z_fetch 185 60 = some (.isub, 61, 0) := by decide +kernel
theorem f185_61 : z_fetch 185 61 = some (.aload 0, 62, 0) := by decide +kernel
theorem f185_62 : z_fetch 185 62 = some (.instanceof 11, 65, 25) := by decide +kernel
theorem f185_65 : z_fetch 185 65 = some (.iconst 7, 67, 0) := by decide +kernel
theorem f185_67 : z_fetch 185 67 = some (.iaload, 68, 0) := by decide +kernel
theorem f185_68 : z_fetch 185 68 = some (.if_icmp .le 0, 71, 72) := by decide +kernel
theorem f185_71 : z_fetch 185 71 = some (.return_, 72, 0) := by decide +kernel
theorem f185_72 : z_fetch 185 72 = some (.iload 6, 74, 0) := by decide +kernel
theorem f185_74 : z_fetch 185 74 = some (.ifCond .eq 0, 77, 120) := by decide +kernel
theorem f185_77 : z_fetch 185 77 = some (.aload 0, 78, 0) := by decide +kernel
theorem f185_78 : z_fetch 185 78 = some (.iload 1, 79, 0) := by decide +kernel
theorem f185_79 : z_fetch 185 79 = some (.iload 2, 80, 0) := by decide +kernel
theorem f185_80 : z_fetch 185 80 = some (.iload 7, 82, 0) := by decide +kernel
theorem f185_82 : z_fetch 185 82 = some (.iload 4, 84, 0) := by decide +kernel
theorem f185_84 : z_fetch 185 84 = some (.isub, 85, 0) := by decide +kernel
theorem f185_85 : z_fetch 185 85 = some (.iload 5, 87, 0) := by decide +kernel
theorem f185_87 : z_fetch 185 87 = some (.iconst 1, 88, 0) := by decide +kernel
theorem f185_88 : z_fetch 185 88 = some (.iload 3, 89, 0) := by decide +kernel
theorem f185_89 : z_fetch 185 89 = some (.iload 3, 90, 0) := by decide +kernel
theorem f185_90 : z_fetch 185 90 = some (.iload 7, 92, 0) := by decide +kernel
theorem f185_92 : z_fetch 185 92 = some (.invokevirtual 165, 95, 0) := by decide +kernel
theorem f185_95 : z_fetch 185 95 = some (.aload 0, 96, 0) := by decide +kernel
theorem f185_96 : z_fetch 185 96 = some (.aload 0, 97, 0) := by decide +kernel
theorem f185_97 : z_fetch 185 97 = some (.instanceof 11, 100, 25) := by decide +kernel
theorem f185_100 : z_fetch 185 100 = some (.iconst 6, 102, 0) := by decide +kernel
theorem f185_102 : z_fetch 185 102 = some (.iaload, 103, 0) := by decide +kernel
theorem f185_103 : z_fetch 185 103 = some (.invokevirtual 167, 106, 0) := by decide +kernel
theorem f185_106 : z_fetch 185 106 = some (.ifCond .ne 0, 109, 120) := by decide +kernel
theorem f185_109 : z_fetch 185 109 = some (.aload 0, 110, 0) := by decide +kernel
theorem f185_110 : z_fetch 185 110 = some (.iload 7, 112, 0) := by decide +kernel
theorem f185_112 : z_fetch 185 112 = some (.putfield 11, 115, 32) := by decide +kernel
theorem f185_115 : z_fetch 185 115 = some (.aload 0, 116, 0) := by decide +kernel
theorem f185_116 : z_fetch 185 116 = some (.iconst 0, 117, 0) := by decide +kernel
theorem f185_117 : z_fetch 185 117 = some (.putfield 11, 120, 33) := by decide +kernel
theorem f185_120 : z_fetch 185 120 = some (.aload 0, 121, 0) := by decide +kernel
theorem f185_121 : z_fetch 185 121 = some (.iload 7, 123, 0) := by decide +kernel
theorem f185_123 : z_fetch 185 123 = some (.iload 8, 125, 0) := by decide +kernel
theorem f185_125 : z_fetch 185 125 = some (.invokevirtual 183, 128, 0) := by decide +kernel
theorem f185_128 : z_fetch 185 128 = some (.iconst 0, 129, 0) := by decide +kernel
theorem f185_129 : z_fetch 185 129 = some (.istore 9, 131, 0) := by decide +kernel
theorem f185_131 : z_fetch 185 131 = some (.iload 9, 133, 0) := by decide +kernel
theorem f185_133 : z_fetch 185 133 = some (.aload 0, 134, 0) := by decide +kernel
theorem f185_134 : z_fetch 185 134 = some (.getfield 11, 137, 29) := by decide +kernel
theorem f185_137 : z_fetch 185 137 = some (.if_icmp .ge 0, 140, 252) := by decide +kernel
theorem f185_140 : z_fetch 185 140 = some (.aload 0, 141, 0) := by decide +kernel
theorem f185_141 : z_fetch 185 141 = some (.instanceof 11, 144, 28) := by decide +kernel
theorem f185_144 : z_fetch 185 144 = some (.iload 9, 146, 0) := by decide +kernel
theorem f185_146 : z_fetch 185 146 = some (.iaload, 147, 0) := by decide +kernel
theorem f185_147 : z_fetch 185 147 = some (.istore 10, 149, 0) := by decide +kernel
theorem f185_149 : z_fetch 185 149 = some (.aload 0, 150, 0) := by decide +kernel
theorem f185_150 : z_fetch 185 150 = some (.iload 10, 152, 0) := by decide +kernel
theorem f185_152 : z_fetch 185 152 = some (.iconst 0, 153, 0) := by decide +kernel
theorem f185_153 : z_fetch 185 153 = some (.invokevirtual 156, 156, 0) := by decide +kernel
theorem f185_156 : z_fetch 185 156 = some (.istore 11, 158, 0) := by decide +kernel
theorem f185_158 : z_fetch 185 158 = some (.iload 11, 160, 0) := by decide +kernel
theorem f185_160 : z_fetch 185 160 = some (.iload 4, 162, 0) := by decide +kernel
theorem f185_162 : z_fetch 185 162 = some (.isub, 163, 0) := by decide +kernel
theorem f185_163 : z_fetch 185 163 = some (.aload 0, 164, 0) := by decide +kernel
theorem f185_164 : z_fetch 185 164 = some (.instanceof 11, 167, 25) := by decide +kernel
theorem f185_167 : z_fetch 185 167 = some (.iconst 7, 169, 0) := by decide +kernel
theorem f185_169 : z_fetch 185 169 = some (.iaload, 170, 0) := by decide +kernel
theorem f185_170 : z_fetch 185 170 = some (.if_icmp .le 0, 173, 174) := by decide +kernel
theorem f185_173 : z_fetch 185 173 = some (.return_, 174, 0) := by decide +kernel
theorem f185_174 : z_fetch 185 174 = some (.aload 0, 175, 0) := by decide +kernel
theorem f185_175 : z_fetch 185 175 = some (.iload 10, 177, 0) := by decide +kernel
theorem f185_177 : z_fetch 185 177 = some (.iconst 1, 178, 0) := by decide +kernel
theorem f185_178 : z_fetch 185 178 = some (.invokevirtual 156, 181, 0) := by decide +kernel
theorem f185_181 : z_fetch 185 181 = some (.istore 12, 183, 0) := by decide +kernel
theorem f185_183 : z_fetch 185 183 = some (.aload 0, 184, 0) := by decide +kernel
theorem f185_184 : z_fetch 185 184 = some (.iload 10, 186, 0) := by decide +kernel
theorem f185_186 : z_fetch 185 186 = some (.iconst 2, 187, 0) := by decide +kernel
theorem f185_187 : z_fetch 185 187 = some (.invokevirtual 156, 190, 0) := by decide +kernel
theorem f185_190 : z_fetch 185 190 = some (.istore 13, 192, 0) := by decide +kernel
theorem f185_192 : z_fetch 185 192 = some (.aload 0, 193, 0) := by decide +kernel
theorem f185_193 : z_fetch 185 193 = some (.instanceof 11, 196, 30) := by decide +kernel
theorem f185_196 : z_fetch 185 196 = some (.iload 12, 198, 0) := by decide +kernel
theorem f185_198 : z_fetch 185 198 = some (.iaload, 199, 0) := by decide +kernel
theorem f185_199 : z_fetch 185 199 = some (.istore 14, 201, 0) := by decide +kernel
theorem f185_201 : z_fetch 185 201 = some (.aload 0, 202, 0) := by decide +kernel
theorem f185_202 : z_fetch 185 202 = some (.instanceof 11, 205, 30) := by decide +kernel
theorem f185_205 : z_fetch 185 205 = some (.iload 13, 207, 0) := by decide +kernel
theorem f185_207 : z_fetch 185 207 = some (.iaload, 208, 0) := by decide +kernel
theorem f185_208 : z_fetch 185 208 = some (.istore 15, 210, 0) := by decide +kernel
theorem f185_210 : z_fetch 185 210 = some (.aload 0, 211, 0) := by decide +kernel
theorem f185_211 : z_fetch 185 211 = some (.iload 1, 212, 0) := by decide +kernel
theorem f185_212 : z_fetch 185 212 = some (.iload 2, 213, 0) := by decide +kernel
theorem f185_213 : z_fetch 185 213 = some (.iload 4, 215, 0) := by decide +kernel
theorem f185_215 : z_fetch 185 215 = some (.iload 5, 217, 0) := by decide +kernel
theorem f185_217 : z_fetch 185 217 = some (.iload 12, 219, 0) := by decide +kernel
theorem f185_219 : z_fetch 185 219 = some (.iload 13, 221, 0) := by decide +kernel
theorem f185_221 : z_fetch 185 221 = some (.iload 14, 223, 0) := by decide +kernel
theorem f185_223 : z_fetch 185 223 = some (.iload 11, 225, 0) := by decide +kernel
theorem f185_225 : z_fetch 185 225 = some (.invokevirtual 184, 228, 0) := by decide +kernel
theorem f185_228 : z_fetch 185 228 = some (.aload 0, 229, 0) := by decide +kernel
theorem f185_229 : z_fetch 185 229 = some (.iload 1, 230, 0) := by decide +kernel
theorem f185_230 : z_fetch 185 230 = some (.iload 2, 231, 0) := by decide +kernel
theorem f185_231 : z_fetch 185 231 = some (.iload 4, 233, 0) := by decide +kernel
theorem f185_233 : z_fetch 185 233 = some (.iload 5, 235, 0) := by decide +kernel
theorem f185_235 : z_fetch 185 235 = some (.iload 13, 237, 0) := by decide +kernel
theorem f185_237 : z_fetch 185 237 = some (.iload 12, 239, 0) := by decide +kernel
theorem f185_239 : z_fetch 185 239 = some (.iload 15, 241, 0) := by decide +kernel
theorem f185_241 : z_fetch 185 241 = some (.iload 11, 243, 0) := by decide +kernel
theorem f185_243 : z_fetch 185 243 = some (.invokevirtual 184, 246, 0) := by decide +kernel
theorem f185_246 : z_fetch 185 246 = some (.iinc 9 1, 249, 0) := by decide +kernel
theorem f185_249 : z_fetch 185 249 = some (.goto 0, 252, 131) := by decide +kernel
theorem f185_252 : z_fetch 185 252 = some (.return_, 253, 0) := by decide +kernel
theorem f186_0 : z_fetch 186 0 = some (.aload 0, 1, 0) := by decide +kernel
theorem f186_1 : z_fetch 186 1 = some (.iload 1, 2, 0) := by decide +kernel
theorem f186_2 : z_fetch 186 2 = some (.aload 0, 3, 0) := by decide +kernel
theorem f186_3 : z_fetch 186 3 = some (.iload 1, 4, 0) := by decide +kernel
theorem f186_4 : z_fetch 186 4 = some (.iconst 0, 5, 0) := by decide +kernel
theorem f186_5 : z_fetch 186 5 = some (.invokevirtual 155, 8, 0) := by decide +kernel
theorem f186_8 : z_fetch 186 8 = some (.aload 0, 9, 0) := by decide +kernel
theorem f186_9 : z_fetch 186 9 = some (.iload 1, 10, 0) := by decide +kernel
theorem f186_10 : z_fetch 186 10 = some (.iconst 1, 11, 0) := by decide +kernel
theorem f186_11 : z_fetch 186 11 = some (.invokevirtual 155, 14, 0) := by decide +kernel
theorem f186_14 : z_fetch 186 14 = some (.aload 0, 15, 0) := by decide +kernel
theorem f186_15 : z_fetch 186 15 = some (.iload 1, 16, 0) := by decide +kernel
theorem f186_16 : z_fetch 186 16 = some (.iconst 2, 17, 0) := by decide +kernel
theorem f186_17 : z_fetch 186 17 = some (.invokevirtual 155, 20, 0) := by decide +kernel
theorem f186_20 : z_fetch 186 20 = some (.aload 0, 21, 0) := by decide +kernel
theorem f186_21 : z_fetch 186 21 = some (.iload 1, 22, 0) := by decide +kernel
theorem f186_22 : z_fetch 186 22 = some (.iconst 3, 23, 0) := by decide +kernel
theorem f186_23 : z_fetch 186 23 = some (.invokevirtual 155, 26, 0) := by decide +kernel
theorem f186_26 : z_fetch 186 26 = some (.aload 0, 27, 0) := by decide +kernel
theorem f186_27 : z_fetch 186 27 = some (.iload 1, 28, 0) := by decide +kernel
theorem f186_28 : z_fetch 186 28 = some (.iconst 4, 29, 0) := by decide +kernel
theorem f186_29 : z_fetch 186 29 = some (.invokevirtual 155, 32, 0) := by decide +kernel
theorem f186_32 : z_fetch 186 32 = some (.iconst 1, 33, 0) := by decide +kernel
theorem f186_33 : z_fetch 186 33 = some (.if_icmp .ne 0, 36, 40) := by decide +kernel
theorem f186_36 : z_fetch 186 36 = some (.iconst 1, 37, 0) := by decide +kernel
theorem f186_37 : z_fetch 186 37 = some (.goto 0, 40, 41) := by decide +kernel
theorem f186_40 : z_fetch 186 40 = some (.iconst 0, 41, 0) := by decide +kernel
theorem f186_41 : z_fetch 186 41 = some (.aload 0, 42, 0) := by decide +kernel
theorem f186_42 : z_fetch 186 42 = some (.instanceof 11, 45, 25) := by decide +kernel
theorem f186_45 : z_fetch 186 45 = some (.iconst 3, 46, 0) := by decide +kernel
theorem f186_46 : z_fetch 186 46 = some (.iaload, 47, 0) := by decide +kernel
theorem f186_47 : z_fetch 186 47 = some (.iload 2, 48, 0) := by decide +kernel
theorem f186_48 : z_fetch 186 48 = some (.invokevirtual 185, 51, 0) := by decide +kernel
theorem f186_51 : z_fetch 186 51 = some (.return_, 52, 0) := by decide +kernel
theorem f187_0 : z_fetch 187 0 = some (.aload 0, 1, 0) := by decide +kernel
theorem f187_1 : z_fetch 187 1 = some (.iload 1, 2, 0) := by decide +kernel
theorem f187_2 : z_fetch 187 2 = some (.invokevirtual 154, 5, 0) := by decide +kernel
theorem f187_5 : z_fetch 187 5 = some (.ifCond .ne 0, 8, 10) := by decide +kernel
theorem f187_8 : z_fetch 187 8 = some (.iconst (-1), 9, 0) := by decide +kernel
theorem f187_9 : z_fetch 187 9 = some (.ireturn, 10, 0) := by decide +kernel
theorem f187_10 : z_fetch 187 10 = some (.aload 0, 11, 0) := by decide +kernel
theorem f187_11 : z_fetch 187 11 = some (.iload 1, 12, 0) := by decide +kernel
theorem f187_12 : z_fetch 187 12 = some (.iconst 0, 13, 0) := by decide +kernel
theorem f187_13 : z_fetch 187 13 = some (.invokevirtual 186, 16, 0) := by decide +kernel
theorem f187_16 : z_fetch 187 16 = some (.aload 0, 17, 0) := by decide +kernel
theorem f187_17 : z_fetch 187 17 = some (.getfield 11, 20, 32) := by decide +kernel
theorem f187_20 : z_fetch 187 20 = some (.ireturn, 21, 0) := by decide +kernel
theorem f188_0 : z_fetch 188 0 = some (.aload 0, 1, 0) := by decide +kernel
theorem f188_1 : z_fetch 188 1 = some (.iload 1, 2, 0) := by decide +kernel
theorem f188_2 : z_fetch 188 2 = some (.invokevirtual 154, 5, 0) := by decide +kernel
theorem f188_5 : z_fetch 188 5 = some (.ifCond .ne 0, 8, 10) := by decide +kernel
theorem f188_8 : z_fetch 188 8 = some (.iconst (-1), 9, 0) := by decide +kernel
theorem f188_9 : z_fetch 188 9 = some (.ireturn, 10, 0) := by decide +kernel
theorem f188_10 : z_fetch 188 10 = some (.aload 0, 11, 0) := by decide +kernel
theorem f188_11 : z_fetch 188 11 = some (.iload 1, 12, 0) := by decide +kernel
theorem f188_12 : z_fetch 188 12 = some (.iconst 0, 13, 0) := by decide +kernel
theorem f188_13 : z_fetch 188 13 = some (.invokevirtual 186, 16, 0) := by decide +kernel
theorem f188_16 : z_fetch 188 16 = some (.aload 0, 17, 0) := by decide +kernel
theorem f188_17 : z_fetch 188 17 = some (.getfield 11, 20, 33) := by decide +kernel
theorem f188_20 : z_fetch 188 20 = some (.iconst 1000000, 23, 0) := by decide +kernel
theorem f188_23 : z_fetch 188 23 = some (.if_icmp .ne 0, 26, 31) := by decide +kernel
theorem f188_26 : z_fetch 188 26 = some (.iconst (-2), 28, 0) := by decide +kernel
theorem f188_28 : z_fetch 188 28 = some (.goto 0, 31, 35) := by decide +kernel
theorem f188_31 : z_fetch 188 31 = some (.aload 0, 32, 0) := by decide +kernel
theorem f188_32 : z_fetch 188 32 = some (.getfield 11, 35, 33) := by decide +kernel
theorem f188_35 : z_fetch 188 35 = some (.ireturn, 36, 0) := by decide +kernel
theorem f189_0 : z_fetch 189 0 = some (.iconst 0, 1, 0) := by decide +kernel
theorem f189_1 : z_fetch 189 1 = some (.istore 2, 2, 0) := by decide +kernel
theorem f189_2 : z_fetch 189 2 = some (.iconst 0, 3, 0) := by decide +kernel
theorem f189_3 : z_fetch 189 3 = some (.istore 3, 4, 0) := by decide +kernel
theorem f189_4 : z_fetch 189 4 = some (.iload 3, 5, 0) := by decide +kernel
theorem f189_5 : z_fetch 189 5 = some (.aload 0, 6, 0) := by decide +kernel
theorem f189_6 : z_fetch 189 6 = some (.instanceof 11, 9, 25) := by decide +kernel
theorem f189_9 : z_fetch 189 9 = some (.iconst 1, 10, 0) := by decide +kernel
theorem f189_10 : z_fetch 189 10 = some (.iaload, 11, 0) := by decide +kernel
theorem f189_11 : z_fetch 189 11 = some (.if_icmp .ge 0, 14, 51) := by decide +kernel
theorem f189_14 : z_fetch 189 14 = some (.aload 0, 15, 0) := by decide +kernel
theorem f189_15 : z_fetch 189 15 = some (.iload 3, 16, 0) := by decide +kernel
theorem f189_16 : z_fetch 189 16 = some (.iload 1, 17, 0) := by decide +kernel
theorem f189_17 : z_fetch 189 17 = some (.invokevirtual 186, 20, 0) := by decide +kernel
theorem f189_20 : z_fetch 189 20 = some (.iload 2, 21, 0) := by decide +kernel
theorem f189_21 : z_fetch 189 21 = some (.aload 0, 22, 0) := by decide +kernel
theorem f189_22 : z_fetch 189 22 = some (.getfield 11, 25, 32) := by decide +kernel
theorem f189_25 : z_fetch 189 25 = some (.ifCond .ge 0, 28, 42) := by decide +kernel
theorem f189_28 : z_fetch 189 28 = some (.aload 0, 29, 0) := by decide +kernel
theorem f189_29 : z_fetch 189 29 = some (.iload 3, 30, 0) := by decide +kernel
theorem f189_30 : z_fetch 189 30 = some (.invokevirtual 157, 33, 0) := by decide +kernel
theorem f189_33 : z_fetch 189 33 = some (.ifCond .ne 0, 36, 42) := by decide +kernel
theorem f189_36 : z_fetch 189 36 = some (.iconst 1, 37, 0) := by decide +kernel
theorem f189_37 : z_fetch 189 37 = some (.iload 3, 38, 0) := by decide +kernel
theorem f189_38 : z_fetch 189 38 = some (.ishl, 39, 0) := by decide +kernel
theorem f189_39 : z_fetch 189 39 = some (.goto 0, 42, 43) := by decide +kernel
theorem f189_42 : z_fetch 189 42 = some (.iconst 0, 43, 0) := by decide +kernel
theorem f189_43 : z_fetch 189 43 = some (.ior, 44, 0) := by decide +kernel
theorem f189_44 : z_fetch 189 44 = some (.istore 2, 45, 0) := by decide +kernel
theorem f189_45 : z_fetch 189 45 = some (.iinc 3 1, 48, 0) := by decide +kernel
theorem f189_48 : z_fetch 189 48 = some (.goto 0, 51, 4) := by decide +kernel
theorem f189_51 : z_fetch 189 51 = some (.iload 2, 52, 0) := by decide +kernel
theorem f189_52 : z_fetch 189 52 = some (.ireturn, 53, 0) := by decide +kernel
theorem f190_0 : z_fetch 190 0 = some (.aload 0, 1, 0) := by decide +kernel
theorem f190_1 : z_fetch 190 1 = some (.instanceof 11, 4, 25) := by decide +kernel
theorem f190_4 : z_fetch 190 4 = some (.iconst 0, 5, 0) := by decide +kernel
theorem f190_5 : z_fetch 190 5 = some (.iaload, 6, 0) := by decide +kernel
theorem f190_6 : z_fetch 190 6 = some (.ifCond .ne 0, 9, 13) := by decide +kernel
theorem f190_9 : z_fetch 190 9 = some (.iconst (-1), 10, 0) := by decide +kernel
theorem f190_10 : z_fetch 190 10 = some (.goto 0, 13, 18) := by decide +kernel
theorem f190_13 : z_fetch 190 13 = some (.aload 0, 14, 0) := by decide +kernel
theorem f190_14 : z_fetch 190 14 = some (.iconst 0, 15, 0) := by decide +kernel
theorem f190_15 : z_fetch 190 15 = some (.invokevirtual 189, 18, 0) := by decide +kernel
theorem f190_18 : z_fetch 190 18 = some (.ireturn, 19, 0) := by decide +kernel
theorem f191_0 : z_fetch 191 0 = some (.aload 0, 1, 0) := by decide +kernel
theorem f191_1 : z_fetch 191 1 = some (.instanceof 11, 4, 25) := by decide +kernel
theorem f191_4 : z_fetch 191 4 = some (.iconst 0, 5, 0) := by decide +kernel
theorem f191_5 : z_fetch 191 5 = some (.iaload, 6, 0) := by decide +kernel
theorem f191_6 : z_fetch 191 6 = some (.ifCond .ne 0, 9, 11) := by decide +kernel
theorem f191_9 : z_fetch 191 9 = some (.iconst (-1), 10, 0) := by decide +kernel
theorem f191_10 : z_fetch 191 10 = some (.ireturn, 11, 0) := by decide +kernel
theorem f191_11 : z_fetch 191 11 = some (.iconst 0, 12, 0) := by decide +kernel
theorem f191_12 : z_fetch 191 12 = some (.istore 1, 13, 0) := by decide +kernel
theorem f191_13 : z_fetch 191 13 = some (.iconst 0, 14, 0) := by decide +kernel
theorem f191_14 : z_fetch 191 14 = some (.istore 2, 15, 0) := by decide +kernel
theorem f191_15 : z_fetch 191 15 = some (.iload 2, 16, 0) := by decide +kernel
theorem f191_16 : z_fetch 191 16 = some (.aload 0, 17, 0) := by decide +kernel
theorem f191_17 : z_fetch 191 17 = some (.instanceof 11, 20, 25) := by decide +kernel
theorem f191_20 : z_fetch 191 20 = some (.iconst 1, 21, 0) := by decide +kernel
theorem f191_21 : z_fetch 191 21 = some (.iaload, 22, 0) := by decide +kernel
theorem f191_22 : z_fetch 191 22 = some (.if_icmp .ge 0, 25, 68) := by decide +kernel
theorem f191_25 : z_fetch 191 25 = some (.aload 0, 26, 0) := by decide +kernel
theorem f191_26 : z_fetch 191 26 = some (.iload 2, 27, 0) := by decide +kernel
theorem f191_27 : z_fetch 191 27 = some (.iconst 0, 28, 0) := by decide +kernel
theorem f191_28 : z_fetch 191 28 = some (.invokevirtual 186, 31, 0) := by decide +kernel
theorem f191_31 : z_fetch 191 31 = some (.aload 0, 32, 0) := by decide +kernel
theorem f191_32 : z_fetch 191 32 = some (.getfield 11, 35, 32) := by decide +kernel
theorem f191_35 : z_fetch 191 35 = some (.ifCond .ge 0, 38, 62) := by decide +kernel
theorem f191_38 : z_fetch 191 38 = some (.aload 0, 39, 0) := by decide +kernel
theorem f191_39 : z_fetch 191 39 = some (.iload 2, 40, 0) := by decide +kernel
theorem f191_40 : z_fetch 191 40 = some (.invokevirtual 157, 43, 0) := by decide +kernel
theorem f191_43 : z_fetch 191 43 = some (.ifCond .eq 0, 46, 49) := by decide +kernel
theorem f191_46 : z_fetch 191 46 = some (.goto 0, 49, 62) := by decide +kernel
theorem f191_49 : z_fetch 191 49 = some (.aload 0, 50, 0) := by decide +kernel
theorem f191_50 : z_fetch 191 50 = some (.instanceof 11, 53, 34) := by decide +kernel
theorem f191_53 : z_fetch 191 53 = some (.iload 1, 54, 0) := by decide +kernel
theorem f191_54 : z_fetch 191 54 = some (.aload 0, 55, 0) := by decide +kernel
theorem f191_55 : z_fetch 191 55 = some (.getfield 11, 58, 31) := by decide +kernel
theorem f191_58 : z_fetch 191 58 = some (.iastore, 59, 0) := by decide +kernel
theorem f191_59 : z_fetch 191 59 = some (.iinc 1 1, 62, 0) := by decide +kernel
theorem f191_62 : z_fetch 191 62 = some (.iinc 2 1, 65, 0) := by decide +kernel
theorem f191_65 : z_fetch 191 65 = some (.goto 0, 68, 15) := by decide +kernel
theorem f191_68 : z_fetch 191 68 = some (.iconst (-1), 69, 0) := by decide +kernel
theorem f191_69 : z_fetch 191 69 = some (.istore 2, 70, 0) := by decide +kernel
theorem f191_70 : z_fetch 191 70 = some (.iconst 0, 71, 0) := by decide +kernel
theorem f191_71 : z_fetch 191 71 = some (.istore 3, 72, 0) := by decide +kernel
theorem f191_72 : z_fetch 191 72 = some (.iload 3, 73, 0) := by decide +kernel
theorem f191_73 : z_fetch 191 73 = some (.iconst 1, 74, 0) := by decide +kernel
theorem f191_74 : z_fetch 191 74 = some (.aload 0, 75, 0) := by decide +kernel
theorem f191_75 : z_fetch 191 75 = some (.instanceof 11, 78, 25) := by decide +kernel
theorem f191_78 : z_fetch 191 78 = some (.iconst 0, 79, 0) := by decide +kernel
theorem f191_79 : z_fetch 191 79 = some (.iaload, 80, 0) := by decide +kernel
theorem f191_80 : z_fetch 191 80 = some (.ishl, 81, 0) := by decide +kernel
theorem f191_81 : z_fetch 191 81 = some (.if_icmp .ge 0, 84, 162) := by decide +kernel
theorem f191_84 : z_fetch 191 84 = some (.iload 2, 85, 0) := by decide +kernel
theorem f191_85 : z_fetch 191 85 = some (.ifCond .lt 0, 88, 99) := by decide +kernel
theorem f191_88 : z_fetch 191 88 = some (.iload 3, 89, 0) := by decide +kernel
theorem f191_89 : z_fetch 191 89 = some (.invokestatic 112, 92, 0) := by decide +kernel
theorem f191_92 : z_fetch 191 92 = some (.iload 2, 93, 0) := by decide +kernel
theorem f191_93 : z_fetch 191 93 = some (.invokestatic 112, 96, 0) := by decide +kernel
theorem f191_96 : z_fetch 191 96 = some (.if_icmp .ge 0, 99, 103) := by decide +kernel
theorem f191_99 : z_fetch 191 99 = some (.iconst 1, 100, 0) := by decide +kernel
theorem f191_100 : z_fetch 191 100 = some (.goto 0, 103, 104) := by decide +kernel
theorem f191_103 : z_fetch 191 103 = some (.iconst 0, 104, 0) := by decide +kernel
theorem f191_104 : z_fetch 191 104 = some (.istore 4, 106, 0) := by decide +kernel
theorem f191_106 : z_fetch 191 106 = some (.iconst 0, 107, 0) := by decide +kernel
theorem f191_107 : z_fetch 191 107 = some (.istore 5, 109, 0) := by decide +kernel
theorem f191_109 : z_fetch 191 109 = some (.iload 5, 111, 0) := by decide +kernel
theorem f191_111 : z_fetch 191 111 = some (.iload 1, 112, 0) := by decide +kernel
theorem f191_112 : z_fetch 191 112 = some (.if_icmp .ge 0, 115, 145) := by decide +kernel
theorem f191_115 : z_fetch 191 115 = some (.iload 4, 117, 0) := by decide +kernel
theorem f191_117 : z_fetch 191 117 = some (.ifCond .eq 0, 120, 145) := by decide +kernel
theorem f191_120 : z_fetch 191 120 = some (.aload 0, 121, 0) := by decide +kernel
theorem f191_121 : z_fetch 191 121 = some (.instanceof 11, 124, 34) := by decide +kernel
theorem f191_124 : z_fetch 191 124 = some (.iload 5, 126, 0) := by decide +kernel
theorem f191_126 : z_fetch 191 126 = some (.iaload, 127, 0) := by decide +kernel
theorem f191_127 : z_fetch 191 127 = some (.iload 3, 128, 0) := by decide +kernel
theorem f191_128 : z_fetch 191 128 = some (.iand, 129, 0) := by decide +kernel
theorem f191_129 : z_fetch 191 129 = some (.ifCond .eq 0, 132, 136) := by decide +kernel
theorem f191_132 : z_fetch 191 132 = some (.iconst 1, 133, 0) := by decide +kernel
theorem f191_133 : z_fetch 191 133 = some (.goto 0, 136, 137) := by decide +kernel
theorem f191_136 : z_fetch 191 136 = some (.iconst 0, 137, 0) := by decide +kernel
theorem f191_137 : z_fetch 191 137 = some (.istore 4, 139, 0) := by decide +kernel
theorem f191_139 : z_fetch 191 139 = some (.iinc 5 1, 142, 0) := by decide +kernel
theorem f191_142 : z_fetch 191 142 = some (.goto 0, 145, 109) := by decide +kernel
theorem f191_145 : z_fetch 191 145 = some (.iload 4, 147, 0) := by decide +kernel
theorem f191_147 : z_fetch 191 147 = some (.ifCond .eq 0, 150, 154) := by decide +kernel
theorem f191_150 : z_fetch 191 150 = some (.iload 3, 151, 0) := by decide +kernel
theorem f191_151 : z_fetch 191 151 = some (.goto 0, 154, 155) := by decide +kernel
theorem f191_154 : z_fetch 191 154 = some (.iload 2, 155, 0) := by decide +kernel
theorem f191_155 : z_fetch 191 155 = some (.istore 2, 156, 0) := by decide +kernel
theorem f191_156 : z_fetch 191 156 = some (.iinc 3 1, 159, 0) := by decide +kernel
theorem f191_159 : z_fetch 191 159 = some (.goto 0, 162, 72) := by decide +kernel
theorem f191_162 : z_fetch 191 162 = some (.iload 2, 163, 0) := by decide +kernel
theorem f191_163 : z_fetch 191 163 = some (.ireturn, 164, 0) := by decide +kernel
theorem f192_0 : z_fetch 192 0 = some (.iconst 0, 1, 0) := by decide +kernel
theorem f192_1 : z_fetch 192 1 = some (.istore 2, 2, 0) := by decide +kernel
theorem f192_2 : z_fetch 192 2 = some (.iconst 0, 3, 0) := by decide +kernel
theorem f192_3 : z_fetch 192 3 = some (.istore 3, 4, 0) := by decide +kernel
theorem f192_4 : z_fetch 192 4 = some (.iload 3, 5, 0) := by decide +kernel
theorem f192_5 : z_fetch 192 5 = some (.aload 0, 6, 0) := by decide +kernel
theorem f192_6 : z_fetch 192 6 = some (.instanceof 11, 9, 25) := by decide +kernel
theorem f192_9 : z_fetch 192 9 = some (.iconst 1, 10, 0) := by decide +kernel
theorem f192_10 : z_fetch 192 10 = some (.iaload, 11, 0) := by decide +kernel
theorem f192_11 : z_fetch 192 11 = some (.if_icmp .ge 0, 14, 41) := by decide +kernel
theorem f192_14 : z_fetch 192 14 = some (.iload 2, 15, 0) := by decide +kernel
theorem f192_15 : z_fetch 192 15 = some (.iload 1, 16, 0) := by decide +kernel
theorem f192_16 : z_fetch 192 16 = some (.iload 3, 17, 0) := by decide +kernel
theorem f192_17 : z_fetch 192 17 = some (.invokestatic 111, 20, 0) := by decide +kernel
theorem f192_20 : z_fetch 192 20 = some (.ifCond .eq 0, 23, 32) := by decide +kernel
theorem f192_23 : z_fetch 192 23 = some (.aload 0, 24, 0) := by decide +kernel
theorem f192_24 : z_fetch 192 24 = some (.iload 3, 25, 0) := by decide +kernel
theorem f192_25 : z_fetch 192 25 = some (.iconst 0, 26, 0) := by decide +kernel
theorem f192_26 : z_fetch 192 26 = some (.invokevirtual 155, 29, 0) := by decide +kernel
theorem f192_29 : z_fetch 192 29 = some (.goto 0, 32, 33) := by decide +kernel
theorem f192_32 : z_fetch 192 32 = some (.iconst 0, 33, 0) := by decide +kernel
theorem f192_33 : z_fetch 192 33 = some (.iadd, 34, 0) := by decide +kernel
theorem f192_34 : z_fetch 192 34 = some (.istore 2, 35, 0) := by decide +kernel
theorem f192_35 : z_fetch 192 35 = some (.iinc 3 1, 38, 0) := by decide +kernel
theorem f192_38 : z_fetch 192 38 = some (.goto 0, 41, 4) := by decide +kernel
theorem f192_41 : z_fetch 192 41 = some (.iload 2, 42, 0) := by decide +kernel
theorem f192_42 : z_fetch 192 42 = some (.ireturn, 43, 0) := by decide +kernel
theorem f193_0 : z_fetch 193 0 = some (.iload 1, 1, 0) := by decide +kernel
theorem f193_1 : z_fetch 193 1 = some (.i2l, 2, 0) := by decide +kernel
theorem f193_2 : z_fetch 193 2 = some (.goto_w 0, 3, 0) := by decide +kernel
theorem f193_3 : z_fetch 193 3 = some (.aload 0, 4, 0) := by decide +kernel
theorem f193_4 : z_fetch 193 4 = some (.instanceof 11, 7, 25) := by decide +kernel
theorem f193_7 : z_fetch 193 7 = some (.iconst 2, 8, 0) := by decide +kernel
theorem f193_8 : z_fetch 193 8 = some (.iaload, 9, 0) := by decide +kernel
theorem f193_9 : z_fetch 193 9 = some (.iconst 1, 10, 0) := by decide +kernel
theorem f193_10 : z_fetch 193 10 = some (.isub, 11, 0) := by decide +kernel
theorem f193_11 : z_fetch 193 11 = some (.i2l, 12, 0) := by decide +kernel
theorem f193_12 : z_fetch 193 12 = some (.invokestatic 110, 15, 0) := by decide +kernel
theorem f193_15 : z_fetch 193 15 = some (.ifCond .ne 0, 18, 20) := by decide +kernel
theorem f193_18 : z_fetch 193 18 = some (.iconst (-1), 19, 0) := by decide +kernel
theorem f193_19 : z_fetch 193 19 = some (.ireturn, 20, 0) := by decide +kernel
theorem f193_20 : z_fetch 193 20 = some (.aload 0, 21, 0) := by decide +kernel
theorem f193_21 : z_fetch 193 21 = some (.aload 0, 22, 0) := by decide +kernel
theorem f193_22 : z_fetch 193 22 = some (.iconst 1, 23, 0) := by decide +kernel
theorem f193_23 : z_fetch 193 23 = some (.iload 1, 24, 0) := by decide +kernel
theorem f193_24 : z_fetch 193 24 = some (.ishl, 25, 0) := by decide +kernel
theorem f193_25 : z_fetch 193 25 = some (.invokevirtual 189, 28, 0) := by decide +kernel
theorem f193_28 : z_fetch 193 28 = some (.invokevirtual 192, 31, 0) := by decide +kernel
theorem f193_31 : z_fetch 193 31 = some (.aload 0, 32, 0) := by decide +kernel
theorem f193_32 : z_fetch 193 32 = some (.aload 0, 33, 0) := by decide +kernel
theorem f193_33 : z_fetch 193 33 = some (.iconst 0, 34, 0) := by decide +kernel
theorem f193_34 : z_fetch 193 34 = some (.invokevirtual 189, 37, 0) := by decide +kernel
theorem f193_37 : z_fetch 193 37 = some (.invokevirtual 192, 40, 0) := by decide +kernel
theorem f193_40 : z_fetch 193 40 = some (.isub, 41, 0) := by decide +kernel
theorem f193_41 : z_fetch 193 41 = some (.ireturn, 42, 0) := by decide +kernel
theorem f194_0 : z_fetch 194 0 = some (.iload 1, 1, 0) := by decide +kernel
theorem f194_1 : z_fetch 194 1 = some (.i2l, 2, 0) := by decide +kernel
theorem f194_2 : z_fetch 194 2 = some (.goto_w 3, 5, 0) := by decide +kernel
theorem f194_5 : z_fetch 194 5 = some (.goto_w 6, 8, 0) := by decide +kernel
theorem f194_8 : z_fetch 194 8 = some (.invokestatic 110, 11, 0) := by decide +kernel
theorem f194_11 : z_fetch 194 11 = some (.ifCond .eq 0, 14, 22) := by decide +kernel
theorem f194_14 : z_fetch 194 14 = some (.aload 0, 15, 0) := by decide +kernel
theorem f194_15 : z_fetch 194 15 = some (.iload 2, 16, 0) := by decide +kernel
theorem f194_16 : z_fetch 194 16 = some (.invokevirtual 153, 19, 0) := by decide +kernel
theorem f194_19 : z_fetch 194 19 = some (.ifCond .ne 0, 22, 24) := by decide +kernel
theorem f194_22 : z_fetch 194 22 = some (.iconst (-1), 23, 0) := by decide +kernel
theorem f194_23 : z_fetch 194 23 = some (.ireturn, 24, 0) := by decide +kernel
theorem f194_24 : z_fetch 194 24 = some (.iconst 0, 25, 0) := by decide +kernel
theorem f194_25 : z_fetch 194 25 = some (.istore 3, 26, 0) := by decide +kernel
theorem f194_26 : z_fetch 194 26 = some (.iload 3, 27, 0) := by decide +kernel
theorem f194_27 : z_fetch 194 27 = some (.iconst 10, 29, 0) := by decide +kernel
theorem f194_29 : z_fetch 194 29 = some (.if_icmp .ge 0, 32, 45) := by decide +kernel
theorem f194_32 : z_fetch 194 32 = some (.aload 0, 33, 0) := by decide +kernel
theorem f194_33 : z_fetch 194 33 = some (.instanceof 11, 36, 35) := by decide +kernel
theorem f194_36 : z_fetch 194 36 = some (.iload 3, 37, 0) := by decide +kernel
theorem f194_37 : z_fetch 194 37 = some (.iconst 0, 38, 0) := by decide +kernel
theorem f194_38 : z_fetch 194 38 = some (.iastore, 39, 0) := by decide +kernel
theorem f194_39 : z_fetch 194 39 = some (.iinc 3 1, 42, 0) := by decide +kernel
theorem f194_42 : z_fetch 194 42 = some (.goto 0, 45, 26) := by decide +kernel
theorem f194_45 : z_fetch 194 45 = some (.iconst 0, 46, 0) := by decide +kernel
theorem f194_46 : z_fetch 194 46 = some (.istore 3, 47, 0) := by decide +kernel
theorem f194_47 : z_fetch 194 47 = some (.iload 3, 48, 0) := by decide +kernel
theorem f194_48 : z_fetch 194 48 = some (.aload 0, 49, 0) := by decide +kernel
theorem f194_49 : z_fetch 194 49 = some (.instanceof 11, 52, 25) := by decide +kernel
theorem f194_52 : z_fetch 194 52 = some (.iconst 2, 53, 0) := by decide +kernel
theorem f194_53 : z_fetch 194 53 = some (.iaload, 54, 0) := by decide +kernel
theorem f194_54 : z_fetch 194 54 = some (.if_icmp .ge 0, 57, 107) := by decide +kernel
theorem f194_57 : z_fetch 194 57 = some (.aload 0, 58, 0) := by decide +kernel
theorem f194_58 : z_fetch 194 58 = some (.instanceof 11, 61, 35) := by decide +kernel
theorem f194_61 : z_fetch 194 61 = some (.aload 0, 62, 0) := by decide +kernel
theorem f194_62 : z_fetch 194 62 = some (.iload 3, 63, 0) := by decide +kernel
theorem f194_63 : z_fetch 194 63 = some (.iconst 1, 64, 0) := by decide +kernel
theorem f194_64 : z_fetch 194 64 = some (.invokevirtual 156, 67, 0) := by decide +kernel
theorem f194_67 : z_fetch 194 67 = some (.dup2, 68, 0) := by decide +kernel
theorem f194_68 : z_fetch 194 68 = some (.iaload, 69, 0) := by decide +kernel
theorem f194_69 : z_fetch 194 69 = some (.iconst 1, 70, 0) := by decide +kernel
theorem f194_70 : z_fetch 194 70 = some (.aload 0, 71, 0) := by decide +kernel
theorem f194_71 : z_fetch 194 71 = some (.iload 3, 72, 0) := by decide +kernel
theorem f194_72 : z_fetch 194 72 = some (.iconst 2, 73, 0) := by decide +kernel
theorem f194_73 : z_fetch 194 73 = some (.invokevirtual 156, 76, 0) := by decide +kernel
theorem f194_76 : z_fetch 194 76 = some (.ishl, 77, 0) := by decide +kernel
theorem f194_77 : z_fetch 194 77 = some (.ior, 78, 0) := by decide +kernel
theorem f194_78 : z_fetch 194 78 = some (.iastore, 79, 0) := by decide +kernel
theorem f194_79 : z_fetch 194 79 = some (.aload 0, 80, 0) := by decide +kernel
theorem f194_80 : z_fetch 194 80 = some (.instanceof 11, 83, 35) := by decide +kernel
theorem f194_83 : z_fetch 194 83 = some (.aload 0, 84, 0) := by decide +kernel
theorem f194_84 : z_fetch 194 84 = some (.iload 3, 85, 0) := by decide +kernel
theorem f194_85 : z_fetch 194 85 = some (.iconst 2, 86, 0) := by decide +kernel
theorem f194_86 : z_fetch 194 86 = some (.invokevirtual 156, 89, 0) := by decide +kernel
theorem f194_89 : z_fetch 194 89 = some (.dup2, 90, 0) := by decide +kernel
theorem f194_90 : z_fetch 194 90 = some (.iaload, 91, 0) := by decide +kernel
theorem f194_91 : z_fetch 194 91 = some (.iconst 1, 92, 0) := by decide +kernel
theorem f194_92 : z_fetch 194 92 = some (.aload 0, 93, 0) := by decide +kernel
theorem f194_93 : z_fetch 194 93 = some (.iload 3, 94, 0) := by decide +kernel
theorem f194_94 : z_fetch 194 94 = some (.iconst 1, 95, 0) := by decide +kernel
theorem f194_95 : z_fetch 194 95 = some (.invokevirtual 156, 98, 0) := by decide +kernel
theorem f194_98 : z_fetch 194 98 = some (.ishl, 99, 0) := by decide +kernel
theorem f194_99 : z_fetch 194 99 = some (.ior, 100, 0) := by decide +kernel
theorem f194_100 : z_fetch 194 100 = some (.iastore, 101, 0) := by decide +kernel
theorem f194_101 : z_fetch 194 101 = some (.iinc 3 1, 104, 0) := by decide +kernel
theorem f194_104 : z_fetch 194 104 = some (.goto 0, 107, 47) := by decide +kernel
theorem f194_107 : z_fetch 194 107 = some (.iconst 0, 108, 0) := by decide +kernel
theorem f194_108 : z_fetch 194 108 = some (.istore 3, 109, 0) := by decide +kernel
theorem f194_109 : z_fetch 194 109 = some (.iconst 1, 110, 0) := by decide +kernel
theorem f194_110 : z_fetch 194 110 = some (.istore 4, 112, 0) := by decide +kernel
theorem f194_112 : z_fetch 194 112 = some (.aload 0, 113, 0) := by decide +kernel
theorem f194_113 : z_fetch 194 113 = some (.instanceof 11, 116, 36) := by decide +kernel
theorem f194_116 : z_fetch 194 116 = some (.iconst 0, 117, 0) := by decide +kernel
theorem f194_117 : z_fetch 194 117 = some (.iload 2, 118, 0) := by decide +kernel
theorem f194_118 : z_fetch 194 118 = some (.iastore, 119, 0) := by decide +kernel
theorem f194_119 : z_fetch 194 119 = some (.aload 0, 120, 0) := by decide +kernel
theorem f194_120 : z_fetch 194 120 = some (.instanceof 11, 123, 36) := by decide +kernel
theorem f194_123 : z_fetch 194 123 = some (.iconst 1, 124, 0) := by decide +kernel
theorem f194_124 : z_fetch 194 124 = some (.iconst (-1), 125, 0) := by decide +kernel
theorem f194_125 : z_fetch 194 125 = some (.iastore, 126, 0) := by decide +kernel
theorem f194_126 : z_fetch 194 126 = some (.iload 4, 128, 0) := by decide +kernel
theorem f194_128 : z_fetch 194 128 = some (.ifCond .le 0, 131, 248) := by decide +kernel
theorem f194_131 : z_fetch 194 131 = some (.aload 0, 132, 0) := by decide +kernel
theorem f194_132 : z_fetch 194 132 = some (.instanceof 11, 135, 36) := by decide +kernel
theorem f194_135 : z_fetch 194 135 = some (.iload 4, 137, 0) := by decide +kernel
theorem f194_137 : z_fetch 194 137 = some (.dup2, 138, 0) := by decide +kernel
theorem f194_138 : z_fetch 194 138 = some (.iaload, 139, 0) := by decide +kernel
theorem f194_139 : z_fetch 194 139 = some (.iconst 1, 140, 0) := by decide +kernel
theorem f194_140 : z_fetch 194 140 = some (.iadd, 141, 0) := by decide +kernel
theorem f194_141 : z_fetch 194 141 = some (.iastore, 142, 0) := by decide +kernel
theorem f194_142 : z_fetch 194 142 = some (.aload 0, 143, 0) := by decide +kernel
theorem f194_143 : z_fetch 194 143 = some (.instanceof 11, 146, 36) := by decide +kernel
theorem f194_146 : z_fetch 194 146 = some (.iload 4, 148, 0) := by decide +kernel
theorem f194_148 : z_fetch 194 148 = some (.iaload, 149, 0) := by decide +kernel
theorem f194_149 : z_fetch 194 149 = some (.istore 5, 151, 0) := by decide +kernel
theorem f194_151 : z_fetch 194 151 = some (.iload 5, 153, 0) := by decide +kernel
theorem f194_153 : z_fetch 194 153 = some (.aload 0, 154, 0) := by decide +kernel
theorem f194_154 : z_fetch 194 154 = some (.instanceof 11, 157, 25) := by decide +kernel
theorem f194_157 : z_fetch 194 157 = some (.iconst 0, 158, 0) := by decide +kernel
theorem f194_158 : z_fetch 194 158 = some (.iaload, 159, 0) := by decide +kernel
theorem f194_159 : z_fetch 194 159 = some (.if_icmp .lt 0, 162, 168) := by decide +kernel
theorem f194_162 : z_fetch 194 162 = some (.iinc 4 (-1), 165, 0) := by decide +kernel
theorem f194_165 : z_fetch 194 165 = some (.goto 0, 168, 245) := by decide +kernel
theorem f194_168 : z_fetch 194 168 = some (.aload 0, 169, 0) := by decide +kernel
theorem f194_169 : z_fetch 194 169 = some (.instanceof 11, 172, 35) := by decide +kernel
theorem f194_172 : z_fetch 194 172 = some (.aload 0, 173, 0) := by decide +kernel
theorem f194_173 : z_fetch 194 173 = some (.instanceof 11, 176, 36) := by decide +kernel
theorem f194_176 : z_fetch 194 176 = some (.iload 4, 178, 0) := by decide +kernel
theorem f194_178 : z_fetch 194 178 = some (.iconst 1, 179, 0) := by decide +kernel
theorem f194_179 : z_fetch 194 179 = some (.isub, 180, 0) := by decide +kernel
theorem f194_180 : z_fetch 194 180 = some (.iaload, 181, 0) := by decide +kernel
theorem f194_181 : z_fetch 194 181 = some (.iaload, 182, 0) := by decide +kernel
theorem f194_182 : z_fetch 194 182 = some (.iload 5, 184, 0) := by decide +kernel
theorem f194_184 : z_fetch 194 184 = some (.invokestatic 111, 187, 0) := by decide +kernel
theorem f194_187 : z_fetch 194 187 = some (.ifCond .eq 0, 190, 245) := by decide +kernel
theorem f194_190 : z_fetch 194 190 = some (.aload 0, 191, 0) := by decide +kernel
theorem f194_191 : z_fetch 194 191 = some (.iload 5, 193, 0) := by decide +kernel
theorem f194_193 : z_fetch 194 193 = some (.iload 4, 195, 0) := by decide +kernel
theorem f194_195 : z_fetch 194 195 = some (.invokevirtual 195, 198, 0) := by decide +kernel
theorem f194_198 : z_fetch 194 198 = some (.ifCond .ne 0, 201, 245) := by decide +kernel
theorem f194_201 : z_fetch 194 201 = some (.iload 4, 203, 0) := by decide +kernel
theorem f194_203 : z_fetch 194 203 = some (.iload 1, 204, 0) := by decide +kernel
theorem f194_204 : z_fetch 194 204 = some (.iconst 1, 205, 0) := by decide +kernel
theorem f194_205 : z_fetch 194 205 = some (.isub, 206, 0) := by decide +kernel
theorem f194_206 : z_fetch 194 206 = some (.if_icmp .ne 0, 209, 234) := by decide +kernel
theorem f194_209 : z_fetch 194 209 = some (.iload 3, 210, 0) := by decide +kernel
theorem f194_210 : z_fetch 194 210 = some (.aload 0, 211, 0) := by decide +kernel
theorem f194_211 : z_fetch 194 211 = some (.instanceof 11, 214, 35) := by decide +kernel
theorem f194_214 : z_fetch 194 214 = some (.iload 5, 216, 0) := by decide +kernel
theorem f194_216 : z_fetch 194 216 = some (.iaload, 217, 0) := by decide +kernel
theorem f194_217 : z_fetch 194 217 = some (.iload 2, 218, 0) := by decide +kernel
theorem f194_218 : z_fetch 194 218 = some (.invokestatic 111, 221, 0) := by decide +kernel
theorem f194_221 : z_fetch 194 221 = some (.ifCond .eq 0, 224, 228) := by decide +kernel
theorem f194_224 : z_fetch 194 224 = some (.iconst 1, 225, 0) := by decide +kernel
theorem f194_225 : z_fetch 194 225 = some (.goto 0, 228, 229) := by decide +kernel
theorem f194_228 : z_fetch 194 228 = some (.iconst 0, 229, 0) := by decide +kernel
theorem f194_229 : z_fetch 194 229 = some (.iadd, 230, 0) := by decide +kernel
theorem f194_230 : z_fetch 194 230 = some (.istore 3, 231, 0) := by decide +kernel
theorem f194_231 : z_fetch 194 231 = some (.goto 0, 234, 245) := by decide +kernel
theorem f194_234 : z_fetch 194 234 = some (.iinc 4 1, 237, 0) := by decide +kernel
theorem f194_237 : z_fetch 194 237 = some (.aload 0, 238, 0) := by decide +kernel
theorem f194_238 : z_fetch 194 238 = some (.instanceof 11, 241, 36) := by decide +kernel
theorem f194_241 : z_fetch 194 241 = some (.iload 4, 243, 0) := by decide +kernel
theorem f194_243 : z_fetch 194 243 = some (.iconst (-1), 244, 0) := by decide +kernel
theorem f194_244 : z_fetch 194 244 = some (.iastore, 245, 0) := by decide +kernel
theorem f194_245 : z_fetch 194 245 = some (.goto 0, 248, 126) := by decide +kernel
theorem f194_248 : z_fetch 194 248 = some (.iload 3, 249, 0) := by decide +kernel
theorem f194_249 : z_fetch 194 249 = some (.iconst 2, 250, 0) := by decide +kernel
theorem f194_250 : z_fetch 194 250 = some (.idiv, 251, 0) := by decide +kernel
theorem f194_251 : z_fetch 194 251 = some (.ireturn, 252, 0) := by decide +kernel
theorem f195_0 : z_fetch 195 0 = some (.iconst 0, 1, 0) := by decide +kernel
theorem f195_1 : z_fetch 195 1 = some (.istore 3, 2, 0) := by decide +kernel
theorem f195_2 : z_fetch 195 2 = some (.iload 3, 3, 0) := by decide +kernel
theorem f195_3 : z_fetch 195 3 = some (.iload 2, 4, 0) := by decide +kernel
theorem f195_4 : z_fetch 195 4 = some (.if_icmp .ge 0, 7, 25) := by decide +kernel
theorem f195_7 : z_fetch 195 7 = some (.aload 0, 8, 0) := by decide +kernel
theorem f195_8 : z_fetch 195 8 = some (.instanceof 11, 11, 36) := by decide +kernel
theorem f195_11 : z_fetch 195 11 = some (.iload 3, 12, 0) := by decide +kernel
theorem f195_12 : z_fetch 195 12 = some (.iaload, 13, 0) := by decide +kernel
theorem f195_13 : z_fetch 195 13 = some (.iload 1, 14, 0) := by decide +kernel
theorem f195_14 : z_fetch 195 14 = some (.if_icmp .ne 0, 17, 19) := by decide +kernel
theorem f195_17 : z_fetch 195 17 = some (.iconst 1, 18, 0) := by decide +kernel
theorem f195_18 : z_fetch 195 18 = some (.ireturn, 19, 1) := by decide +kernel
theorem f195_19 : z_fetch 195 19 = some (.iinc 3 1, 22, 0) := by decide +kernel
theorem f195_22 : z_fetch 195 22 = some (.goto 0, 25, 2) := by decide +kernel
theorem f195_25 : z_fetch 195 25 = some (.iconst 0, 26, 0) := by decide +kernel
theorem f195_26 : z_fetch 195 26 = some (.ireturn, 27, 1) := by decide +kernel
theorem f196_0 : z_fetch 196 0 = some (.aload 0, 1, 0) := by decide +kernel
theorem f196_1 : z_fetch 196 1 = some (.iload 1, 2, 0) := by decide +kernel
theorem f196_2 : z_fetch 196 2 = some (.invokevirtual 153, 5, 0) := by decide +kernel
theorem f196_5 : z_fetch 196 5 = some (.ifCond .eq 0, 8, 20) := by decide +kernel
theorem f196_8 : z_fetch 196 8 = some (.iload 2, 9, 0) := by decide +kernel
theorem f196_9 : z_fetch 196 9 = some (.i2l, 10, 0) := by decide +kernel
theorem f196_10 : z_fetch 196 10 = some (.goto_w 1, 11, 0) := by decide +kernel
theorem f196_11 : z_fetch 196 11 = some (.goto_w 400, 14, 0) := by decide +kernel
theorem f196_14 : z_fetch 196 14 = some (.invokestatic 110, 17, 0) := by decide +kernel
theorem f196_17 : z_fetch 196 17 = some (.ifCond .ne 0, 20, 22) := by decide +kernel
theorem f196_20 : z_fetch 196 20 = some (.iconst (-1), 21, 0) := by decide +kernel
theorem f196_21 : z_fetch 196 21 = some (.ireturn, 22, 0) := by decide +kernel
theorem f196_22 : z_fetch 196 22 = some (.aload 0, 23, 0) := by decide +kernel
theorem f196_23 : z_fetch 196 23 = some (.instanceof 11, 26, 25) := by decide +kernel
theorem f196_26 : z_fetch 196 26 = some (.iconst 3, 27, 0) := by decide +kernel
theorem f196_27 : z_fetch 196 27 = some (.iaload, 28, 0) := by decide +kernel
theorem f196_28 : z_fetch 196 28 = some (.istore 3, 29, 0) := by decide +kernel
theorem f196_29 : z_fetch 196 29 = some (.iload 3, 30, 0) := by decide +kernel
theorem f196_30 : z_fetch 196 30 = some (.aload 0, 31, 0) := by decide +kernel
theorem f196_31 : z_fetch 196 31 = some (.instanceof 11, 34, 25) := by decide +kernel
theorem f196_34 : z_fetch 196 34 = some (.iconst 3, 35, 0) := by decide +kernel
theorem f196_35 : z_fetch 196 35 = some (.iaload, 36, 0) := by decide +kernel
theorem f196_36 : z_fetch 196 36 = some (.iload 2, 37, 0) := by decide +kernel
theorem f196_37 : z_fetch 196 37 = some (.iadd, 38, 0) := by decide +kernel
theorem f196_38 : z_fetch 196 38 = some (.if_icmp .ge 0, 41, 75) := by decide +kernel
theorem f196_41 : z_fetch 196 41 = some (.aload 0, 42, 0) := by decide +kernel
theorem f196_42 : z_fetch 196 42 = some (.aload 0, 43, 0) := by decide +kernel
theorem f196_43 : z_fetch 196 43 = some (.instanceof 11, 46, 25) := by decide +kernel
theorem f196_46 : z_fetch 196 46 = some (.iconst 1, 47, 0) := by decide +kernel
theorem f196_47 : z_fetch 196 47 = some (.iaload, 48, 0) := by decide +kernel
theorem f196_48 : z_fetch 196 48 = some (.iconst 1, 49, 0) := by decide +kernel
theorem f196_49 : z_fetch 196 49 = some (.iload 1, 50, 0) := by decide +kernel
theorem f196_50 : z_fetch 196 50 = some (.iload 3, 51, 0) := by decide +kernel
theorem f196_51 : z_fetch 196 51 = some (.iconst 1, 52, 0) := by decide +kernel
theorem f196_52 : z_fetch 196 52 = some (.iload 1, 53, 0) := by decide +kernel
theorem f196_53 : z_fetch 196 53 = some (.ishl, 54, 0) := by decide +kernel
theorem f196_54 : z_fetch 196 54 = some (.iconst 0, 55, 0) := by decide +kernel
theorem f196_55 : z_fetch 196 55 = some (.iload 3, 56, 0) := by decide +kernel
theorem f196_56 : z_fetch 196 56 = some (.iconst 0, 57, 0) := by decide +kernel
theorem f196_57 : z_fetch 196 57 = some (.invokevirtual 185, 60, 0) := by decide +kernel
theorem f196_60 : z_fetch 196 60 = some (.aload 0, 61, 0) := by decide +kernel
theorem f196_61 : z_fetch 196 61 = some (.getfield 11, 64, 32) := by decide +kernel
theorem f196_64 : z_fetch 196 64 = some (.ifCond .ge 0, 67, 69) := by decide +kernel
theorem f196_67 : z_fetch 196 67 = some (.iload 3, 68, 0) := by decide +kernel
theorem f196_68 : z_fetch 196 68 = some (.ireturn, 69, 0) := by decide +kernel
theorem f196_69 : z_fetch 196 69 = some (.iinc 3 1, 72, 0) := by decide +kernel
theorem f196_72 : z_fetch 196 72 = some (.goto 0, 75, 29) := by decide +kernel
theorem f196_75 : z_fetch 196 75 = some (.iconst (-2), 77, 0) := by decide +kernel
theorem f196_77 : z_fetch 196 77 = some (.ireturn, 78, 0) := by decide +kernel
theorem f197_0 : z_fetch 197 0 = some (.aload 0, 1, 0) := by decide +kernel
theorem f197_1 : z_fetch 197 1 = some (.iload 1, 2, 0) := by decide +kernel
theorem f197_2 : z_fetch 197 2 = some (.invokevirtual 154, 5, 0) := by decide +kernel
theorem f197_5 : z_fetch 197 5 = some (.ifCond .eq 0, 8, 20) := by decide +kernel
theorem f197_8 : z_fetch 197 8 = some (.iload 2, 9, 0) := by decide +kernel
theorem f197_9 : z_fetch 197 9 = some (.i2l, 10, 0) := by decide +kernel
theorem f197_10 : z_fetch 197 10 = some (.goto_w (-1), 13, 0) := by decide +kernel
theorem f197_13 : z_fetch 197 13 = some (.goto_w 1, 14, 0) := by decide +kernel
theorem f197_14 : z_fetch 197 14 = some (.invokestatic 110, 17, 0) := by decide +kernel
theorem f197_17 : z_fetch 197 17 = some (.ifCond .ne 0, 20, 22) := by decide +kernel
theorem f197_20 : z_fetch 197 20 = some (.iconst 0, 21, 0) := by decide +kernel
theorem f197_21 : z_fetch 197 21 = some (.ireturn, 22, 1) := by decide +kernel
theorem f197_22 : z_fetch 197 22 = some (.aload 0, 23, 0) := by decide +kernel
theorem f197_23 : z_fetch 197 23 = some (.instanceof 11, 26, 25) := by decide +kernel
theorem f197_26 : z_fetch 197 26 = some (.iconst 131, 29, 0) := by decide +kernel
theorem f197_29 : z_fetch 197 29 = some (.iload 1, 30, 0) := by decide +kernel
theorem f197_30 : z_fetch 197 30 = some (.iadd, 31, 0) := by decide +kernel
theorem f197_31 : z_fetch 197 31 = some (.iload 2, 32, 0) := by decide +kernel
theorem f197_32 : z_fetch 197 32 = some (.iastore, 33, 0) := by decide +kernel
theorem f197_33 : z_fetch 197 33 = some (.iconst 1, 34, 0) := by decide +kernel
theorem f197_34 : z_fetch 197 34 = some (.ireturn, 35, 1) := by decide +kernel
theorem f198_0 : z_fetch 198 0 = some (.iconst 0, 1, 0) := by decide +kernel
theorem f198_1 : z_fetch 198 1 = some (.istore 2, 2, 0) := by decide +kernel
theorem f198_2 : z_fetch 198 2 = some (.iload 2, 3, 0) := by decide +kernel
theorem f198_3 : z_fetch 198 3 = some (.aload 0, 4, 0) := by decide +kernel
theorem f198_4 : z_fetch 198 4 = some (.instanceof 11, 7, 25) := by decide +kernel
theorem f198_7 : z_fetch 198 7 = some (.iconst 1, 8, 0) := by decide +kernel
theorem f198_8 : z_fetch 198 8 = some (.iaload, 9, 0) := by decide +kernel
theorem f198_9 : z_fetch 198 9 = some (.if_icmp .ge 0, 12, 76) := by decide +kernel
theorem f198_12 : z_fetch 198 12 = some (.aload 0, 13, 0) := by decide +kernel
theorem f198_13 : z_fetch 198 13 = some (.instanceof 11, 16, 25) := by decide +kernel
theorem f198_16 : z_fetch 198 16 = some (.iconst 131, 19, 0) := by decide +kernel
theorem f198_19 : z_fetch 198 19 = some (.iload 2, 20, 0) := by decide +kernel
theorem f198_20 : z_fetch 198 20 = some (.iadd, 21, 0) := by decide +kernel
theorem f198_21 : z_fetch 198 21 = some (.iaload, 22, 0) := by decide +kernel
theorem f198_22 : z_fetch 198 22 = some (.ifCond .ge 0, 25, 28) := by decide +kernel
theorem f198_25 : z_fetch 198 25 = some (.goto 0, 28, 70) := by decide +kernel
theorem f198_28 : z_fetch 198 28 = some (.aload 0, 29, 0) := by decide +kernel
theorem f198_29 : z_fetch 198 29 = some (.iload 2, 30, 0) := by decide +kernel
theorem f198_30 : z_fetch 198 30 = some (.iload 1, 31, 0) := by decide +kernel
theorem f198_31 : z_fetch 198 31 = some (.invokevirtual 186, 34, 0) := by decide +kernel
theorem f198_34 : z_fetch 198 34 = some (.aload 0, 35, 0) := by decide +kernel
theorem f198_35 : z_fetch 198 35 = some (.getfield 11, 38, 32) := by decide +kernel
theorem f198_38 : z_fetch 198 38 = some (.ifCond .lt 0, 41, 45) := by decide +kernel
theorem f198_41 : z_fetch 198 41 = some (.iconst 1, 42, 0) := by decide +kernel
theorem f198_42 : z_fetch 198 42 = some (.goto 0, 45, 46) := by decide +kernel
theorem f198_45 : z_fetch 198 45 = some (.iconst 0, 46, 0) := by decide +kernel
theorem f198_46 : z_fetch 198 46 = some (.aload 0, 47, 0) := by decide +kernel
theorem f198_47 : z_fetch 198 47 = some (.instanceof 11, 50, 25) := by decide +kernel
theorem f198_50 : z_fetch 198 50 = some (.iconst 131, 53, 0) := by decide +kernel
theorem f198_53 : z_fetch 198 53 = some (.iload 2, 54, 0) := by decide +kernel
theorem f198_54 : z_fetch 198 54 = some (.iadd, 55, 0) := by decide +kernel
theorem f198_55 : z_fetch 198 55 = some (.iaload, 56, 0) := by decide +kernel
theorem f198_56 : z_fetch 198 56 = some (.iconst 1, 57, 0) := by decide +kernel
theorem f198_57 : z_fetch 198 57 = some (.if_icmp .ne 0, 60, 64) := by decide +kernel
theorem f198_60 : z_fetch 198 60 = some (.iconst 1, 61, 0) := by decide +kernel
theorem f198_61 : z_fetch 198 61 = some (.goto 0, 64, 65) := by decide +kernel
theorem f198_64 : z_fetch 198 64 = some (.iconst 0, 65, 0) := by decide +kernel
theorem f198_65 : z_fetch 198 65 = some (.if_icmp .eq 0, 68, 70) := by decide +kernel
theorem f198_68 : z_fetch 198 68 = some (.iconst 0, 69, 0) := by decide +kernel
theorem f198_69 : z_fetch 198 69 = some (.ireturn, 70, 1) := by decide +kernel
theorem f198_70 : z_fetch 198 70 = some (.iinc 2 1, 73, 0) := by decide +kernel
theorem f198_73 : z_fetch 198 73 = some (.goto 0, 76, 2) := by decide +kernel
theorem f198_76 : z_fetch 198 76 = some (.iconst 1, 77, 0) := by decide +kernel
theorem f198_77 : z_fetch 198 77 = some (.ireturn, 78, 1) := by decide +kernel
theorem f199_0 : z_fetch 199 0 = some (.aload 0, 1, 0) := by decide +kernel
theorem f199_1 : z_fetch 199 1 = some (.instanceof 11, 4, 25) := by decide +kernel
theorem f199_4 : z_fetch 199 4 = some (.iconst 0, 5, 0) := by decide +kernel
theorem f199_5 : z_fetch 199 5 = some (.iaload, 6, 0) := by decide +kernel
theorem f199_6 : z_fetch 199 6 = some (.ifCond .eq 0, 9, 21) := by decide +kernel
theorem f199_9 : z_fetch 199 9 = some (.iload 1, 10, 0) := by decide +kernel
theorem f199_10 : z_fetch 199 10 = some (.i2l, 11, 0) := by decide +kernel
theorem f199_11 : z_fetch 199 11 = some (.goto_w 0, 12, 0) := by decide +kernel
theorem f199_12 : z_fetch 199 12 = some (.goto_w 2, 15, 0) := by decide +kernel
theorem f199_15 : z_fetch 199 15 = some (.invokestatic 110, 18, 0) := by decide +kernel
theorem f199_18 : z_fetch 199 18 = some (.ifCond .ne 0, 21, 23) := by decide +kernel
theorem f199_21 : z_fetch 199 21 = some (.iconst (-1), 22, 0) := by decide +kernel
theorem f199_22 : z_fetch 199 22 = some (.ireturn, 23, 0) := by decide +kernel
theorem f199_23 : z_fetch 199 23 = some (.aload 0, 24, 0) := by decide +kernel
theorem f199_24 : z_fetch 199 24 = some (.instanceof 11, 27, 25) := by decide +kernel
theorem f199_27 : z_fetch 199 27 = some (.iconst 2, 28, 0) := by decide +kernel
theorem f199_28 : z_fetch 199 28 = some (.iaload, 29, 0) := by decide +kernel
theorem f199_29 : z_fetch 199 29 = some (.iconst 8, 31, 0) := by decide +kernel
theorem f199_31 : z_fetch 199 31 = some (.if_icmp .ge 0, 34, 43) := by decide +kernel
theorem f199_34 : z_fetch 199 34 = some (.aload 0, 35, 0) := by decide +kernel
theorem f199_35 : z_fetch 199 35 = some (.instanceof 11, 38, 25) := by decide +kernel
theorem f199_38 : z_fetch 199 38 = some (.iconst 2, 39, 0) := by decide +kernel
theorem f199_39 : z_fetch 199 39 = some (.iaload, 40, 0) := by decide +kernel
theorem f199_40 : z_fetch 199 40 = some (.goto 0, 43, 45) := by decide +kernel
theorem f199_43 : z_fetch 199 43 = some (.iconst 8, 45, 0) := by decide +kernel
theorem f199_45 : z_fetch 199 45 = some (.istore 2, 46, 0) := by decide +kernel
theorem f199_46 : z_fetch 199 46 = some (.iconst 1, 47, 0) := by decide +kernel
theorem f199_47 : z_fetch 199 47 = some (.iload 2, 48, 0) := by decide +kernel
theorem f199_48 : z_fetch 199 48 = some (.ishl, 49, 0) := by decide +kernel
theorem f199_49 : z_fetch 199 49 = some (.iconst 1, 50, 0) := by decide +kernel
theorem f199_50 : z_fetch 199 50 = some (.isub, 51, 0) := by decide +kernel
theorem f199_51 : z_fetch 199 51 = some (.istore 3, 52, 0) := by decide +kernel
theorem f199_52 : z_fetch 199 52 = some (.iconst 0, 53, 0) := by decide +kernel
theorem f199_53 : z_fetch 199 53 = some (.istore 4, 55, 0) := by decide +kernel
theorem f199_55 : z_fetch 199 55 = some (.iload 3, 56, 0) := by decide +kernel
theorem f199_56 : z_fetch 199 56 = some (.istore 5, 58, 0) := by decide +kernel
theorem f199_58 : z_fetch 199 58 = some (.iload 3, 59, 0) := by decide +kernel
theorem f199_59 : z_fetch 199 59 = some (.istore 6, 61, 0) := by decide +kernel
theorem f199_61 : z_fetch 199 61 = some (.iconst 0, 62, 0) := by decide +kernel
theorem f199_62 : z_fetch 199 62 = some (.istore 7, 64, 0) := by decide +kernel
theorem f199_64 : z_fetch 199 64 = some (.iload 7, 66, 0) := by decide +kernel
theorem f199_66 : z_fetch 199 66 = some (.iload 3, 67, 0) := by decide +kernel
theorem f199_67 : z_fetch 199 67 = some (.if_icmp .gt 0, 70, 111) := by decide +kernel
theorem f199_70 : z_fetch 199 70 = some (.aload 0, 71, 0) := by decide +kernel
theorem f199_71 : z_fetch 199 71 = some (.iload 3, 72, 0) := by decide +kernel
theorem f199_72 : z_fetch 199 72 = some (.iload 7, 74, 0) := by decide +kernel
theorem f199_74 : z_fetch 199 74 = some (.iconst (-1), 75, 0) := by decide +kernel
theorem f199_75 : z_fetch 199 75 = some (.ixor, 76, 0) := by decide +kernel
theorem f199_76 : z_fetch 199 76 = some (.iand, 77, 0) := by decide +kernel
theorem f199_77 : z_fetch 199 77 = some (.invokevirtual 198, 80, 0) := by decide +kernel
theorem f199_80 : z_fetch 199 80 = some (.ifCond .ne 0, 83, 86) := by decide +kernel
theorem f199_83 : z_fetch 199 83 = some (.goto 0, 86, 105) := by decide +kernel
theorem f199_86 : z_fetch 199 86 = some (.iload 5, 88, 0) := by decide +kernel
theorem f199_88 : z_fetch 199 88 = some (.iload 7, 90, 0) := by decide +kernel
theorem f199_90 : z_fetch 199 90 = some (.iand, 91, 0) := by decide +kernel
theorem f199_91 : z_fetch 199 91 = some (.istore 5, 93, 0) := by decide +kernel
theorem f199_93 : z_fetch 199 93 = some (.iload 6, 95, 0) := by decide +kernel
theorem f199_95 : z_fetch 199 95 = some (.iload 7, 97, 0) := by decide +kernel
theorem f199_97 : z_fetch 199 97 = some (.iconst (-1), 98, 0) := by decide +kernel
theorem f199_98 : z_fetch 199 98 = some (.ixor, 99, 0) := by decide +kernel
theorem f199_99 : z_fetch 199 99 = some (.iand, 100, 0) := by decide +kernel
theorem f199_100 : z_fetch 199 100 = some (.istore 6, 102, 0) := by decide +kernel
theorem f199_102 : z_fetch 199 102 = some (.iinc 4 1, 105, 0) := by decide +kernel
theorem f199_105 : z_fetch 199 105 = some (.iinc 7 1, 108, 0) := by decide +kernel
theorem f199_108 : z_fetch 199 108 = some (.goto 0, 111, 64) := by decide +kernel
theorem f199_111 : z_fetch 199 111 = some (.iload 1, 112, 0) := by decide +kernel
theorem f199_112 : z_fetch 199 112 = some (.ifCond .ne 0, 115, 120) := by decide +kernel
theorem f199_115 : z_fetch 199 115 = some (.iload 4, 117, 0) := by decide +kernel
theorem f199_117 : z_fetch 199 117 = some (.goto 0, 120, 141) := by decide +kernel
theorem f199_120 : z_fetch 199 120 = some (.iload 4, 122, 0) := by decide +kernel
theorem f199_122 : z_fetch 199 122 = some (.ifCond .ne 0, 125, 129) := by decide +kernel
theorem f199_125 : z_fetch 199 125 = some (.iconst 0, 126, 0) := by decide +kernel
theorem f199_126 : z_fetch 199 126 = some (.goto 0, 129, 141) := by decide +kernel
theorem f199_129 : z_fetch 199 129 = some (.iload 1, 130, 0) := by decide +kernel
theorem f199_130 : z_fetch 199 130 = some (.iconst 1, 131, 0) := by decide +kernel
theorem f199_131 : z_fetch 199 131 = some (.if_icmp .ne 0, 134, 139) := by decide +kernel
theorem f199_134 : z_fetch 199 134 = some (.iload 5, 136, 0) := by decide +kernel
theorem f199_136 : z_fetch 199 136 = some (.goto 0, 139, 141) := by decide +kernel
theorem f199_139 : z_fetch 199 139 = some (.iload 6, 141, 0) := by decide +kernel
theorem f199_141 : z_fetch 199 141 = some (.ireturn, 142, 0) := by decide +kernel
theorem f200_0 : z_fetch 200 0 = some (.iload 1, 1, 0) := by decide +kernel
theorem f200_1 : z_fetch 200 1 = some (.ifCond .ge 0, 4, 6) := by decide +kernel
theorem f200_4 : z_fetch 200 4 = some (.iconst (-1), 5, 0) := by decide +kernel
theorem f200_5 : z_fetch 200 5 = some (.ireturn, 6, 0) := by decide +kernel
theorem f200_6 : z_fetch 200 6 = some (.aload 0, 7, 0) := by decide +kernel
theorem f200_7 : z_fetch 200 7 = some (.instanceof 11, 10, 25) := by decide +kernel
theorem f200_10 : z_fetch 200 10 = some (.iconst 5, 11, 0) := by decide +kernel
theorem f200_11 : z_fetch 200 11 = some (.iaload, 12, 0) := by decide +kernel
theorem f200_12 : z_fetch 200 12 = some (.istore 2, 13, 0) := by decide +kernel
theorem f200_13 : z_fetch 200 13 = some (.aload 0, 14, 0) := by decide +kernel
theorem f200_14 : z_fetch 200 14 = some (.instanceof 11, 17, 25) := by decide +kernel
theorem f200_17 : z_fetch 200 17 = some (.iconst 5, 18, 0) := by decide +kernel
theorem f200_18 : z_fetch 200 18 = some (.iload 1, 19, 0) := by decide +kernel
theorem f200_19 : z_fetch 200 19 = some (.iastore, 20, 0) := by decide +kernel
theorem f200_20 : z_fetch 200 20 = some (.iload 2, 21, 0) := by decide +kernel
theorem f200_21 : z_fetch 200 21 = some (.ireturn, 22, 0) := by decide +kernel
theorem f201_0 : z_fetch 201 0 = some (.aload 0, 1, 0) := by decide +kernel
theorem f201_1 : z_fetch 201 1 = some (.instanceof 11, 4, 25) := by decide +kernel
theorem f201_4 : z_fetch 201 4 = some (.iconst 0, 5, 0) := by decide +kernel
theorem f201_5 : z_fetch 201 5 = some (.iaload, 6, 0) := by decide +kernel
theorem f201_6 : z_fetch 201 6 = some (.ifCond .eq 0, 9, 52) := by decide +kernel
theorem f201_9 : z_fetch 201 9 = some (.aload 0, 10, 0) := by decide +kernel
theorem f201_10 : z_fetch 201 10 = some (.iload 1, 11, 0) := by decide +kernel
theorem f201_11 : z_fetch 201 11 = some (.invokevirtual 148, 14, 0) := by decide +kernel
theorem f201_14 : z_fetch 201 14 = some (.ifCond .eq 0, 17, 52) := by decide +kernel
theorem f201_17 : z_fetch 201 17 = some (.iload 2, 18, 0) := by decide +kernel
theorem f201_18 : z_fetch 201 18 = some (.i2l, 19, 0) := by decide +kernel
theorem f201_19 : z_fetch 201 19 = some (.goto_w 1, 20, 0) := by decide +kernel
theorem f201_20 : z_fetch 201 20 = some (.goto_w 10, 23, 0) := by decide +kernel
theorem f201_23 : z_fetch 201 23 = some (.invokestatic 110, 26, 0) := by decide +kernel
theorem f201_26 : z_fetch 201 26 = some (.ifCond .eq 0, 29, 52) := by decide +kernel
theorem f201_29 : z_fetch 201 29 = some (.iload 3, 30, 0) := by decide +kernel
theorem f201_30 : z_fetch 201 30 = some (.i2l, 31, 0) := by decide +kernel
theorem f201_31 : z_fetch 201 31 = some (.goto_w 1, 32, 0) := by decide +kernel
theorem f201_32 : z_fetch 201 32 = some (.goto_w 400, 35, 0) := by decide +kernel
theorem f201_35 : z_fetch 201 35 = some (.invokestatic 110, 38, 0) := by decide +kernel
theorem f201_38 : z_fetch 201 38 = some (.ifCond .eq 0, 41, 52) := by decide +kernel
theorem f201_41 : z_fetch 201 41 = some (.iload 4, 43, 0) := by decide +kernel
theorem f201_43 : z_fetch 201 43 = some (.i2l, 44, 0) := by decide +kernel
theorem f201_44 : z_fetch 201 44 = some (.goto_w 0, 45, 0) := by decide +kernel
theorem f201_45 : z_fetch 201 45 = some (.goto_w 1, 46, 0) := by decide +kernel
theorem f201_46 : z_fetch 201 46 = some (.invokestatic 110, 49, 0) := by decide +kernel
theorem f201_49 : z_fetch 201 49 = some (.ifCond .ne 0, 52, 54) := by decide +kernel
theorem f201_52 : z_fetch 201 52 = some (.iconst (-1), 53, 0) := by decide +kernel
theorem f201_53 : z_fetch 201 53 = some (.ireturn, 54, 0) := by decide +kernel
theorem f201_54 : z_fetch 201 54 = some (.aload 0, 55, 0) := by decide +kernel
theorem f201_55 : z_fetch 201 55 = some (.invokevirtual 180, 58, 0) := by decide +kernel
theorem f201_58 : z_fetch 201 58 = some (.aload 0, 59, 0) := by decide +kernel
theorem f201_59 : z_fetch 201 59 = some (.instanceof 11, 62, 25) := by decide +kernel
theorem f201_62 : z_fetch 201 62 = some (.iconst 5, 63, 0) := by decide +kernel
theorem f201_63 : z_fetch 201 63 = some (.iaload, 64, 0) := by decide +kernel
theorem f201_64 : z_fetch 201 64 = some (.i2l, 65, 0) := by decide +kernel
theorem f201_65 : z_fetch 201 65 = some (.lstore 5, 67, 0) := by decide +kernel
theorem f201_67 : z_fetch 201 67 = some (.iconst 0, 68, 0) := by decide +kernel
theorem f201_68 : z_fetch 201 68 = some (.istore 7, 70, 0) := by decide +kernel
theorem f201_70 : z_fetch 201 70 = some (.iconst 0, 71, 0) := by decide +kernel
theorem f201_71 : z_fetch 201 71 = some (.istore 8, 73, 0) := by decide +kernel
theorem f201_73 : z_fetch 201 73 = some (.iload 8, 75, 0) := by decide +kernel
theorem f201_75 : z_fetch 201 75 = some (.iload 2, 76, 0) := by decide +kernel
theorem f201_76 : z_fetch 201 76 = some (.if_icmp .ge 0, 79, 281) := by decide +kernel
theorem f201_79 : z_fetch 201 79 = some (.iconst 0, 80, 0) := by decide +kernel
theorem f201_80 : z_fetch 201 80 = some (.istore 9, 82, 0) := by decide +kernel
theorem f201_82 : z_fetch 201 82 = some (.iload 9, 84, 0) := by decide +kernel
theorem f201_84 : z_fetch 201 84 = some (.iload 3, 85, 0) := by decide +kernel
theorem f201_85 : z_fetch 201 85 = some (.if_icmp .ge 0, 88, 238) := by decide +kernel
theorem f201_88 : z_fetch 201 88 = some (.lload 5, 90, 0) := by decide +kernel
theorem f201_90 : z_fetch 201 90 = some (.goto_w 1103515245, 93, 0) := by decide +kernel
theorem f201_93 : z_fetch 201 93 = some (.lmul, 94, 0) := by decide +kernel
theorem f201_94 : z_fetch 201 94 = some (.goto_w 12345, 97, 0) := by decide +kernel
theorem f201_97 : z_fetch 201 97 = some (.ladd, 98, 0) := by decide +kernel
theorem f201_98 : z_fetch 201 98 = some (.goto_w 2147483648, 101, 0) := by decide +kernel
theorem f201_101 : z_fetch 201 101 = some (.lrem, 102, 0) := by decide +kernel
theorem f201_102 : z_fetch 201 102 = some (.lstore 5, 104, 0) := by decide +kernel
theorem f201_104 : z_fetch 201 104 = some (.lload 5, 106, 0) := by decide +kernel
theorem f201_106 : z_fetch 201 106 = some (.goto_w 65536, 109, 0) := by decide +kernel
theorem f201_109 : z_fetch 201 109 = some (.ldiv, 110, 0) := by decide +kernel
theorem f201_110 : z_fetch 201 110 = some (.aload 0, 111, 0) := by decide +kernel
theorem f201_111 : z_fetch 201 111 = some (.instanceof 11, 114, 25) := by decide +kernel
theorem f201_114 : z_fetch 201 114 = some (.iconst 0, 115, 0) := by decide +kernel
theorem f201_115 : z_fetch 201 115 = some (.iaload, 116, 0) := by decide +kernel
theorem f201_116 : z_fetch 201 116 = some (.i2l, 117, 0) := by decide +kernel
theorem f201_117 : z_fetch 201 117 = some (.lrem, 118, 0) := by decide +kernel
theorem f201_118 : z_fetch 201 118 = some (.l2i, 119, 0) := by decide +kernel
theorem f201_119 : z_fetch 201 119 = some (.istore 10, 121, 0) := by decide +kernel
theorem f201_121 : z_fetch 201 121 = some (.lload 5, 123, 0) := by decide +kernel
theorem f201_123 : z_fetch 201 123 = some (.goto_w 1103515245, 126, 0) := by decide +kernel
theorem f201_126 : z_fetch 201 126 = some (.lmul, 127, 0) := by decide +kernel
theorem f201_127 : z_fetch 201 127 = some (.goto_w 12345, 130, 0) := by decide +kernel
theorem f201_130 : z_fetch 201 130 = some (.ladd, 131, 0) := by decide +kernel
theorem f201_131 : z_fetch 201 131 = some (.goto_w 2147483648, 134, 0) := by decide +kernel
theorem f201_134 : z_fetch 201 134 = some (.lrem, 135, 0) := by decide +kernel
theorem f201_135 : z_fetch 201 135 = some (.lstore 5, 137, 0) := by decide +kernel
theorem f201_137 : z_fetch 201 137 = some (.lload 5, 139, 0) := by decide +kernel
theorem f201_139 : z_fetch 201 139 = some (.goto_w 65536, 142, 0) := by decide +kernel
theorem f201_142 : z_fetch 201 142 = some (.ldiv, 143, 0) := by decide +kernel
theorem f201_143 : z_fetch 201 143 = some (.aload 0, 144, 0) := by decide +kernel
theorem f201_144 : z_fetch 201 144 = some (.instanceof 11, 147, 25) := by decide +kernel
theorem f201_147 : z_fetch 201 147 = some (.iconst 0, 148, 0) := by decide +kernel
theorem f201_148 : z_fetch 201 148 = some (.iaload, 149, 0) := by decide +kernel
theorem f201_149 : z_fetch 201 149 = some (.i2l, 150, 0) := by decide +kernel
theorem f201_150 : z_fetch 201 150 = some (.lrem, 151, 0) := by decide +kernel
theorem f201_151 : z_fetch 201 151 = some (.l2i, 152, 0) := by decide +kernel
theorem f201_152 : z_fetch 201 152 = some (.istore 11, 154, 0) := by decide +kernel
theorem f201_154 : z_fetch 201 154 = some (.iconst 56, 156, 0) := by decide +kernel
theorem f201_156 : z_fetch 201 156 = some (.iconst 3, 157, 0) := by decide +kernel
theorem f201_157 : z_fetch 201 157 = some (.aload 0, 158, 0) := by decide +kernel
theorem f201_158 : z_fetch 201 158 = some (.instanceof 11, 161, 27) := by decide +kernel
theorem f201_161 : z_fetch 201 161 = some (.iconst 2, 162, 0) := by decide +kernel
theorem f201_162 : z_fetch 201 162 = some (.iaload, 163, 0) := by decide +kernel
theorem f201_163 : z_fetch 201 163 = some (.imul, 164, 0) := by decide +kernel
theorem f201_164 : z_fetch 201 164 = some (.iadd, 165, 0) := by decide +kernel
theorem f201_165 : z_fetch 201 165 = some (.istore 12, 167, 0) := by decide +kernel
theorem f201_167 : z_fetch 201 167 = some (.aload 0, 168, 0) := by decide +kernel
theorem f201_168 : z_fetch 201 168 = some (.instanceof 11, 171, 25) := by decide +kernel
theorem f201_171 : z_fetch 201 171 = some (.iload 12, 173, 0) := by decide +kernel
theorem f201_173 : z_fetch 201 173 = some (.aload 0, 174, 0) := by decide +kernel
theorem f201_174 : z_fetch 201 174 = some (.instanceof 11, 177, 25) := by decide +kernel
theorem f201_177 : z_fetch 201 177 = some (.iconst 3, 178, 0) := by decide +kernel
theorem f201_178 : z_fetch 201 178 = some (.iaload, 179, 0) := by decide +kernel
theorem f201_179 : z_fetch 201 179 = some (.iastore, 180, 0) := by decide +kernel
theorem f201_180 : z_fetch 201 180 = some (.aload 0, 181, 0) := by decide +kernel
theorem f201_181 : z_fetch 201 181 = some (.instanceof 11, 184, 25) := by decide +kernel
theorem f201_184 : z_fetch 201 184 = some (.iload 12, 186, 0) := by decide +kernel
theorem f201_186 : z_fetch 201 186 = some (.iconst 1, 187, 0) := by decide +kernel
theorem f201_187 : z_fetch 201 187 = some (.iadd, 188, 0) := by decide +kernel
theorem f201_188 : z_fetch 201 188 = some (.iload 10, 190, 0) := by decide +kernel
theorem f201_190 : z_fetch 201 190 = some (.iastore, 191, 0) := by decide +kernel
theorem f201_191 : z_fetch 201 191 = some (.aload 0, 192, 0) := by decide +kernel
theorem f201_192 : z_fetch 201 192 = some (.instanceof 11, 195, 25) := by decide +kernel
theorem f201_195 : z_fetch 201 195 = some (.iload 12, 197, 0) := by decide +kernel
theorem f201_197 : z_fetch 201 197 = some (.iconst 2, 198, 0) := by decide +kernel
theorem f201_198 : z_fetch 201 198 = some (.iadd, 199, 0) := by decide +kernel
theorem f201_199 : z_fetch 201 199 = some (.iload 11, 201, 0) := by decide +kernel
theorem f201_201 : z_fetch 201 201 = some (.iastore, 202, 0) := by decide +kernel
theorem f201_202 : z_fetch 201 202 = some (.aload 0, 203, 0) := by decide +kernel
theorem f201_203 : z_fetch 201 203 = some (.instanceof 11, 206, 25) := by decide +kernel
theorem f201_206 : z_fetch 201 206 = some (.iconst 2, 207, 0) := by decide +kernel
theorem f201_207 : z_fetch 201 207 = some (.aload 0, 208, 0) := by decide +kernel
theorem f201_208 : z_fetch 201 208 = some (.instanceof 11, 211, 27) := by decide +kernel
theorem f201_211 : z_fetch 201 211 = some (.iconst 2, 212, 0) := by decide +kernel
theorem f201_212 : z_fetch 201 212 = some (.iaload, 213, 0) := by decide +kernel
theorem f201_213 : z_fetch 201 213 = some (.iload 10, 215, 0) := by decide +kernel
theorem f201_215 : z_fetch 201 215 = some (.iload 11, 217, 0) := by decide +kernel
theorem f201_217 : z_fetch 201 217 = some (.if_icmp .ne 0, 220, 224) := by decide +kernel
theorem f201_220 : z_fetch 201 220 = some (.iconst 0, 221, 0) := by decide +kernel
theorem f201_221 : z_fetch 201 221 = some (.goto 0, 224, 225) := by decide +kernel
theorem f201_224 : z_fetch 201 224 = some (.iconst 1, 225, 0) := by decide +kernel
theorem f201_225 : z_fetch 201 225 = some (.iadd, 226, 0) := by decide +kernel
theorem f201_226 : z_fetch 201 226 = some (.iastore, 227, 0) := by decide +kernel
theorem f201_227 : z_fetch 201 227 = some (.aload 0, 228, 0) := by decide +kernel
theorem f201_228 : z_fetch 201 228 = some (.iload 1, 229, 0) := by decide +kernel
theorem f201_229 : z_fetch 201 229 = some (.invokevirtual 178, 232, 0) := by decide +kernel
theorem f201_232 : z_fetch 201 232 = some (.iinc 9 1, 235, 0) := by decide +kernel
theorem f201_235 : z_fetch 201 235 = some (.goto 0, 238, 82) := by decide +kernel
theorem f201_238 : z_fetch 201 238 = some (.iload 7, 240, 0) := by decide +kernel
theorem f201_240 : z_fetch 201 240 = some (.iload 4, 242, 0) := by decide +kernel
theorem f201_242 : z_fetch 201 242 = some (.ifCond .ne 0, 245, 261) := by decide +kernel
theorem f201_245 : z_fetch 201 245 = some (.aload 0, 246, 0) := by decide +kernel
theorem f201_246 : z_fetch 201 246 = some (.instanceof 11, 249, 25) := by decide +kernel
theorem f201_249 : z_fetch 201 249 = some (.iconst 4, 250, 0) := by decide +kernel
theorem f201_250 : z_fetch 201 250 = some (.iaload, 251, 0) := by decide +kernel
theorem f201_251 : z_fetch 201 251 = some (.aload 0, 252, 0) := by decide +kernel
theorem f201_252 : z_fetch 201 252 = some (.instanceof 11, 255, 27) := by decide +kernel
theorem f201_255 : z_fetch 201 255 = some (.iconst 4, 256, 0) := by decide +kernel
theorem f201_256 : z_fetch 201 256 = some (.iaload, 257, 0) := by decide +kernel
theorem f201_257 : z_fetch 201 257 = some (.isub, 258, 0) := by decide +kernel
theorem f201_258 : z_fetch 201 258 = some (.goto 0, 261, 268) := by decide +kernel
theorem f201_261 : z_fetch 201 261 = some (.aload 0, 262, 0) := by decide +kernel
theorem f201_262 : z_fetch 201 262 = some (.invokevirtual 158, 265, 0) := by decide +kernel
theorem f201_265 : z_fetch 201 265 = some (.invokestatic 112, 268, 0) := by decide +kernel
theorem f201_268 : z_fetch 201 268 = some (.iadd, 269, 0) := by decide +kernel
theorem f201_269 : z_fetch 201 269 = some (.istore 7, 271, 0) := by decide +kernel
theorem f201_271 : z_fetch 201 271 = some (.aload 0, 272, 0) := by decide +kernel
theorem f201_272 : z_fetch 201 272 = some (.invokevirtual 181, 275, 0) := by decide +kernel
theorem f201_275 : z_fetch 201 275 = some (.iinc 8 1, 278, 0) := by decide +kernel
theorem f201_278 : z_fetch 201 278 = some (.goto 0, 281, 73) := by decide +kernel
theorem f201_281 : z_fetch 201 281 = some (.iload 7, 283, 0) := by decide +kernel
theorem f201_283 : z_fetch 201 283 = some (.ireturn, 284, 0) := by decide +kernel
theorem f202_0 : z_fetch 202 0 = some (.iconst 0, 1, 0) := by decide +kernel
theorem f202_1 : z_fetch 202 1 = some (.istore 2, 2, 0) := by decide +kernel
theorem f202_2 : z_fetch 202 2 = some (.iload 1, 3, 0) := by decide +kernel
theorem f202_3 : z_fetch 202 3 = some (.tableswitch 0 0 11 #[64, 64, 64, 64, 64, 71, 76, 84, 92, 133, 140, 145], 64, 153) := by decide +kernel
theorem f202_64 : z_fetch 202 64 = some (.aload 0, 65, 0) := by decide +kernel
theorem f202_65 : z_fetch 202 65 = some (.instanceof 11, 68, 25) := by decide +kernel
theorem f202_68 : z_fetch 202 68 = some (.iload 1, 69, 0) := by decide +kernel
theorem f202_69 : z_fetch 202 69 = some (.iaload, 70, 0) := by decide +kernel
theorem f202_70 : z_fetch 202 70 = some (.ireturn, 71, 0) := by decide +kernel
theorem f202_71 : z_fetch 202 71 = some (.aload 0, 72, 0) := by decide +kernel
theorem f202_72 : z_fetch 202 72 = some (.getfield 11, 75, 2) := by decide +kernel
theorem f202_75 : z_fetch 202 75 = some (.ireturn, 76, 0) := by decide +kernel
theorem f202_76 : z_fetch 202 76 = some (.aload 0, 77, 0) := by decide +kernel
theorem f202_77 : z_fetch 202 77 = some (.instanceof 11, 80, 25) := by decide +kernel
theorem f202_80 : z_fetch 202 80 = some (.iconst 6, 82, 0) := by decide +kernel
theorem f202_82 : z_fetch 202 82 = some (.iaload, 83, 0) := by decide +kernel
theorem f202_83 : z_fetch 202 83 = some (.ireturn, 84, 0) := by decide +kernel
theorem f202_84 : z_fetch 202 84 = some (.aload 0, 85, 0) := by decide +kernel
theorem f202_85 : z_fetch 202 85 = some (.instanceof 11, 88, 25) := by decide +kernel
theorem f202_88 : z_fetch 202 88 = some (.iconst 7, 90, 0) := by decide +kernel
theorem f202_90 : z_fetch 202 90 = some (.iaload, 91, 0) := by decide +kernel
theorem f202_91 : z_fetch 202 91 = some (.ireturn, 92, 0) := by decide +kernel
theorem f202_92 : z_fetch 202 92 = some (.iconst 0, 93, 0) := by decide +kernel
theorem f202_93 : z_fetch 202 93 = some (.istore 3, 94, 0) := by decide +kernel
theorem f202_94 : z_fetch 202 94 = some (.iload 3, 95, 0) := by decide +kernel
theorem f202_95 : z_fetch 202 95 = some (.aload 0, 96, 0) := by decide +kernel
theorem f202_96 : z_fetch 202 96 = some (.instanceof 11, 99, 25) := by decide +kernel
theorem f202_99 : z_fetch 202 99 = some (.iconst 1, 100, 0) := by decide +kernel
theorem f202_100 : z_fetch 202 100 = some (.iaload, 101, 0) := by decide +kernel
theorem f202_101 : z_fetch 202 101 = some (.if_icmp .ge 0, 104, 131) := by decide +kernel
theorem f202_104 : z_fetch 202 104 = some (.iload 2, 105, 0) := by decide +kernel
theorem f202_105 : z_fetch 202 105 = some (.aload 0, 106, 0) := by decide +kernel
theorem f202_106 : z_fetch 202 106 = some (.instanceof 11, 109, 25) := by decide +kernel
theorem f202_109 : z_fetch 202 109 = some (.iconst 131, 112, 0) := by decide +kernel
theorem f202_112 : z_fetch 202 112 = some (.iload 3, 113, 0) := by decide +kernel
theorem f202_113 : z_fetch 202 113 = some (.iadd, 114, 0) := by decide +kernel
theorem f202_114 : z_fetch 202 114 = some (.iaload, 115, 0) := by decide +kernel
theorem f202_115 : z_fetch 202 115 = some (.ifCond .ge 0, 118, 122) := by decide +kernel
theorem f202_118 : z_fetch 202 118 = some (.iconst 0, 119, 0) := by decide +kernel
theorem f202_119 : z_fetch 202 119 = some (.goto 0, 122, 123) := by decide +kernel
theorem f202_122 : z_fetch 202 122 = some (.iconst 1, 123, 0) := by decide +kernel
theorem f202_123 : z_fetch 202 123 = some (.iadd, 124, 0) := by decide +kernel
theorem f202_124 : z_fetch 202 124 = some (.istore 2, 125, 0) := by decide +kernel
theorem f202_125 : z_fetch 202 125 = some (.iinc 3 1, 128, 0) := by decide +kernel
theorem f202_128 : z_fetch 202 128 = some (.goto 0, 131, 94) := by decide +kernel
theorem f202_131 : z_fetch 202 131 = some (.iload 2, 132, 0) := by decide +kernel
theorem f202_132 : z_fetch 202 132 = some (.ireturn, 133, 0) := by decide +kernel
theorem f202_133 : z_fetch 202 133 = some (.aload 0, 134, 0) := by decide +kernel
theorem f202_134 : z_fetch 202 134 = some (.instanceof 11, 137, 25) := by decide +kernel
theorem f202_137 : z_fetch 202 137 = some (.iconst 5, 138, 0) := by decide +kernel
theorem f202_138 : z_fetch 202 138 = some (.iaload, 139, 0) := by decide +kernel
theorem f202_139 : z_fetch 202 139 = some (.ireturn, 140, 0) := by decide +kernel
theorem f202_140 : z_fetch 202 140 = some (.aload 0, 141, 0) := by decide +kernel
theorem f202_141 : z_fetch 202 141 = some (.getfield 11, 144, 1) := by decide +kernel
theorem f202_144 : z_fetch 202 144 = some (.ireturn, 145, 0) := by decide +kernel
theorem f202_145 : z_fetch 202 145 = some (.aload 0, 146, 0) := by decide +kernel
theorem f202_146 : z_fetch 202 146 = some (.invokevirtual 158, 149, 0) := by decide +kernel
theorem f202_149 : z_fetch 202 149 = some (.invokestatic 112, 152, 0) := by decide +kernel
theorem f202_152 : z_fetch 202 152 = some (.ireturn, 153, 0) := by decide +kernel
theorem f202_153 : z_fetch 202 153 = some (.iconst (-1), 154, 0) := by decide +kernel
theorem f202_154 : z_fetch 202 154 = some (.ireturn, 155, 0) := by decide +kernel
theorem f203_0 : z_fetch 203 0 = some (.iload 1, 1, 0) := by decide +kernel
theorem f203_1 : z_fetch 203 1 = some (.i2l, 2, 0) := by decide +kernel
theorem f203_2 : z_fetch 203 2 = some (.goto_w 0, 3, 0) := by decide +kernel
theorem f203_3 : z_fetch 203 3 = some (.goto_w 3, 6, 0) := by decide +kernel
theorem f203_6 : z_fetch 203 6 = some (.invokestatic 110, 9, 0) := by decide +kernel
theorem f203_9 : z_fetch 203 9 = some (.ifCond .ne 0, 12, 14) := by decide +kernel
theorem f203_12 : z_fetch 203 12 = some (.iconst (-1), 13, 0) := by decide +kernel
theorem f203_13 : z_fetch 203 13 = some (.ireturn, 14, 0) := by decide +kernel
theorem f203_14 : z_fetch 203 14 = some (.aload 0, 15, 0) := by decide +kernel
theorem f203_15 : z_fetch 203 15 = some (.instanceof 11, 18, 38) := by decide +kernel
theorem f203_18 : z_fetch 203 18 = some (.iload 1, 19, 0) := by decide +kernel
theorem f203_19 : z_fetch 203 19 = some (.iconst 1, 20, 0) := by decide +kernel
theorem f203_20 : z_fetch 203 20 = some (.bastore, 21, 0) := by decide +kernel
theorem f203_21 : z_fetch 203 21 = some (.iconst 0, 22, 0) := by decide +kernel
theorem f203_22 : z_fetch 203 22 = some (.istore 2, 23, 0) := by decide +kernel
theorem f203_23 : z_fetch 203 23 = some (.iload 2, 24, 0) := by decide +kernel
theorem f203_24 : z_fetch 203 24 = some (.iconst 139, 27, 0) := by decide +kernel
theorem f203_27 : z_fetch 203 27 = some (.if_icmp .ge 0, 30, 54) := by decide +kernel
theorem f203_30 : z_fetch 203 30 = some (.aload 0, 31, 0) := by decide +kernel
theorem f203_31 : z_fetch 203 31 = some (.instanceof 11, 34, 37) := by decide +kernel
theorem f203_34 : z_fetch 203 34 = some (.iconst 139, 37, 0) := by decide +kernel
theorem f203_37 : z_fetch 203 37 = some (.iload 1, 38, 0) := by decide +kernel
theorem f203_38 : z_fetch 203 38 = some (.imul, 39, 0) := by decide +kernel
theorem f203_39 : z_fetch 203 39 = some (.iload 2, 40, 0) := by decide +kernel
theorem f203_40 : z_fetch 203 40 = some (.iadd, 41, 0) := by decide +kernel
theorem f203_41 : z_fetch 203 41 = some (.aload 0, 42, 0) := by decide +kernel
theorem f203_42 : z_fetch 203 42 = some (.instanceof 11, 45, 25) := by decide +kernel
theorem f203_45 : z_fetch 203 45 = some (.iload 2, 46, 0) := by decide +kernel
theorem f203_46 : z_fetch 203 46 = some (.iaload, 47, 0) := by decide +kernel
theorem f203_47 : z_fetch 203 47 = some (.iastore, 48, 0) := by decide +kernel
theorem f203_48 : z_fetch 203 48 = some (.iinc 2 1, 51, 0) := by decide +kernel
theorem f203_51 : z_fetch 203 51 = some (.goto 0, 54, 23) := by decide +kernel
theorem f203_54 : z_fetch 203 54 = some (.aload 0, 55, 0) := by decide +kernel
theorem f203_55 : z_fetch 203 55 = some (.instanceof 11, 58, 25) := by decide +kernel
theorem f203_58 : z_fetch 203 58 = some (.iconst 3, 59, 0) := by decide +kernel
theorem f203_59 : z_fetch 203 59 = some (.iaload, 60, 0) := by decide +kernel
theorem f203_60 : z_fetch 203 60 = some (.ireturn, 61, 0) := by decide +kernel
theorem f204_0 : z_fetch 204 0 = some (.iload 1, 1, 0) := by decide +kernel
theorem f204_1 : z_fetch 204 1 = some (.i2l, 2, 0) := by decide +kernel
theorem f204_2 : z_fetch 204 2 = some (.goto_w 0, 3, 0) := by decide +kernel
theorem f204_3 : z_fetch 204 3 = some (.goto_w 3, 6, 0) := by decide +kernel
theorem f204_6 : z_fetch 204 6 = some (.invokestatic 110, 9, 0) := by decide +kernel
theorem f204_9 : z_fetch 204 9 = some (.ifCond .eq 0, 12, 21) := by decide +kernel
theorem f204_12 : z_fetch 204 12 = some (.aload 0, 13, 0) := by decide +kernel
theorem f204_13 : z_fetch 204 13 = some (.instanceof 11, 16, 38) := by decide +kernel
theorem f204_16 : z_fetch 204 16 = some (.iload 1, 17, 0) := by decide +kernel
theorem f204_17 : z_fetch 204 17 = some (.baload, 18, 0) := by decide +kernel
theorem f204_18 : z_fetch 204 18 = some (.ifCond .ne 0, 21, 23) := by decide +kernel
theorem f204_21 : z_fetch 204 21 = some (.iconst (-1), 22, 0) := by decide +kernel
theorem f204_22 : z_fetch 204 22 = some (.ireturn, 23, 0) := by decide +kernel
theorem f204_23 : z_fetch 204 23 = some (.iconst 0, 24, 0) := by decide +kernel
theorem f204_24 : z_fetch 204 24 = some (.istore 2, 25, 0) := by decide +kernel
theorem f204_25 : z_fetch 204 25 = some (.iload 2, 26, 0) := by decide +kernel
theorem f204_26 : z_fetch 204 26 = some (.iconst 139, 29, 0) := by decide +kernel
theorem f204_29 : z_fetch 204 29 = some (.if_icmp .ge 0, 32, 56) := by decide +kernel
theorem f204_32 : z_fetch 204 32 = some (.aload 0, 33, 0) := by decide +kernel
theorem f204_33 : z_fetch 204 33 = some (.instanceof 11, 36, 25) := by decide +kernel
theorem f204_36 : z_fetch 204 36 = some (.iload 2, 37, 0) := by decide +kernel
theorem f204_37 : z_fetch 204 37 = some (.aload 0, 38, 0) := by decide +kernel
theorem f204_38 : z_fetch 204 38 = some (.instanceof 11, 41, 37) := by decide +kernel
theorem f204_41 : z_fetch 204 41 = some (.iconst 139, 44, 0) := by decide +kernel
theorem f204_44 : z_fetch 204 44 = some (.iload 1, 45, 0) := by decide +kernel
theorem f204_45 : z_fetch 204 45 = some (.imul, 46, 0) := by decide +kernel
theorem f204_46 : z_fetch 204 46 = some (.iload 2, 47, 0) := by decide +kernel
theorem f204_47 : z_fetch 204 47 = some (.iadd, 48, 0) := by decide +kernel
theorem f204_48 : z_fetch 204 48 = some (.iaload, 49, 0) := by decide +kernel
theorem f204_49 : z_fetch 204 49 = some (.iastore, 50, 0) := by decide +kernel
theorem f204_50 : z_fetch 204 50 = some (.iinc 2 1, 53, 0) := by decide +kernel
theorem f204_53 : z_fetch 204 53 = some (.goto 0, 56, 25) := by decide +kernel
theorem f204_56 : z_fetch 204 56 = some (.aload 0, 57, 0) := by decide +kernel
theorem f204_57 : z_fetch 204 57 = some (.instanceof 11, 60, 25) := by decide +kernel
theorem f204_60 : z_fetch 204 60 = some (.iconst 3, 61, 0) := by decide +kernel
theorem f204_61 : z_fetch 204 61 = some (.iaload, 62, 0) := by decide +kernel
theorem f204_62 : z_fetch 204 62 = some (.ireturn, 63, 0) := by decide +kernel
theorem f205_0 : z_fetch 205 0 = some (.iload 0, 1, 0) := by decide +kernel
theorem f205_1 : z_fetch 205 1 = some (.iload 0, 2, 0) := by decide +kernel
theorem f205_2 : z_fetch 205 2 = some (.iconst 1, 3, 0) := by decide +kernel
theorem f205_3 : z_fetch 205 3 = some (.iushr, 4, 0) := by decide +kernel
theorem f205_4 : z_fetch 205 4 = some (.iconst 1431655765, 7, 0) := by decide +kernel
theorem f205_7 : z_fetch 205 7 = some (.iand, 8, 0) := by decide +kernel
theorem f205_8 : z_fetch 205 8 = some (.isub, 9, 0) := by decide +kernel
theorem f205_9 : z_fetch 205 9 = some (.istore 0, 10, 0) := by decide +kernel
theorem f205_10 : z_fetch 205 10 = some (.iload 0, 11, 0) := by decide +kernel
theorem f205_11 : z_fetch 205 11 = some (.iconst 858993459, 14, 0) := by decide +kernel
theorem f205_14 : z_fetch 205 14 = some (.iand, 15, 0) := by decide +kernel
theorem f205_15 : z_fetch 205 15 = some (.iload 0, 16, 0) := by decide +kernel
theorem f205_16 : z_fetch 205 16 = some (.iconst 2, 17, 0) := by decide +kernel
theorem f205_17 : z_fetch 205 17 = some (.iushr, 18, 0) := by decide +kernel
theorem f205_18 : z_fetch 205 18 = some (.iconst 858993459, 21, 0) := by decide +kernel
theorem f205_21 : z_fetch 205 21 = some (.iand, 22, 0) := by decide +kernel
theorem f205_22 : z_fetch 205 22 = some (.iadd, 23, 0) := by decide +kernel
theorem f205_23 : z_fetch 205 23 = some (.istore 0, 24, 0) := by decide +kernel
theorem f205_24 : z_fetch 205 24 = some (.iload 0, 25, 0) := by decide +kernel
theorem f205_25 : z_fetch 205 25 = some (.iload 0, 26, 0) := by decide +kernel
theorem f205_26 : z_fetch 205 26 = some (.iconst 4, 27, 0) := by decide +kernel
theorem f205_27 : z_fetch 205 27 = some (.iushr, 28, 0) := by decide +kernel
theorem f205_28 : z_fetch 205 28 = some (.iadd, 29, 0) := by decide +kernel
theorem f205_29 : z_fetch 205 29 = some (.iconst 252645135, 32, 0) := by decide +kernel
theorem f205_32 : z_fetch 205 32 = some (.iand, 33, 0) := by decide +kernel
theorem f205_33 : z_fetch 205 33 = some (.istore 0, 34, 0) := by decide +kernel
theorem f205_34 : z_fetch 205 34 = some (.iload 0, 35, 0) := by decide +kernel
theorem f205_35 : z_fetch 205 35 = some (.iload 0, 36, 0) := by decide +kernel
theorem f205_36 : z_fetch 205 36 = some (.iconst 8, 38, 0) := by decide +kernel
theorem f205_38 : z_fetch 205 38 = some (.iushr, 39, 0) := by decide +kernel
theorem f205_39 : z_fetch 205 39 = some (.iadd, 40, 0) := by decide +kernel
theorem f205_40 : z_fetch 205 40 = some (.istore 0, 41, 0) := by decide +kernel
theorem f205_41 : z_fetch 205 41 = some (.iload 0, 42, 0) := by decide +kernel
theorem f205_42 : z_fetch 205 42 = some (.iload 0, 43, 0) := by decide +kernel
theorem f205_43 : z_fetch 205 43 = some (.iconst 16, 45, 0) := by decide +kernel
theorem f205_45 : z_fetch 205 45 = some (.iushr, 46, 0) := by decide +kernel
theorem f205_46 : z_fetch 205 46 = some (.iadd, 47, 0) := by decide +kernel
theorem f205_47 : z_fetch 205 47 = some (.istore 0, 48, 0) := by decide +kernel
theorem f205_48 : z_fetch 205 48 = some (.iload 0, 49, 0) := by decide +kernel
theorem f205_49 : z_fetch 205 49 = some (.iconst 63, 51, 0) := by decide +kernel
theorem f205_51 : z_fetch 205 51 = some (.iand, 52, 0) := by decide +kernel
theorem f205_52 : z_fetch 205 52 = some (.ireturn, 53, 0) := by decide +kernel
theorem f206_0 : z_fetch 206 0 = some (.aload 0, 1, 0) := by decide +kernel
theorem f206_1 : z_fetch 206 1 = some (.fload 0, 4, 0) := by decide +kernel
theorem f206_4 : z_fetch 206 4 = some (.arraylength, 5, 0) := by decide +kernel
theorem f206_5 : z_fetch 206 5 = some (.aload 0, 6, 0) := by decide +kernel
theorem f206_6 : z_fetch 206 6 = some (.invokevirtual 208, 9, 0) := by decide +kernel
theorem f206_9 : z_fetch 206 9 = some (.ishr, 10, 0) := by decide +kernel
theorem f206_10 : z_fetch 206 10 = some (.ireturn, 11, 0) := by decide +kernel
theorem f207_0 : z_fetch 207 0 = some (.aload 0, 1, 0) := by decide +kernel
theorem f207_1 : z_fetch 207 1 = some (.invokevirtual 209, 4, 0) := by decide +kernel
theorem f207_4 : z_fetch 207 4 = some (.ifCond .eq 0, 7, 16) := by decide +kernel
theorem f207_7 : z_fetch 207 7 = some (.aload 0, 8, 0) := by decide +kernel
theorem f207_8 : z_fetch 207 8 = some (.fload 0, 11, 0) := by decide +kernel
theorem f207_11 : z_fetch 207 11 = some (.iload 1, 12, 0) := by decide +kernel
theorem f207_12 : z_fetch 207 12 = some (.invokestatic 211, 15, 0) := by decide +kernel
theorem f207_15 : z_fetch 207 15 = some (.ireturn, 16, 3) := by decide +kernel
theorem f207_16 : z_fetch 207 16 = some (.aload 0, 17, 0) := by decide +kernel
theorem f207_17 : z_fetch 207 17 = some (.fload 0, 20, 0) := by decide +kernel
theorem f207_20 : z_fetch 207 20 = some (.iload 1, 21, 0) := by decide +kernel
theorem f207_24 : z_fetch 207 24 = some (.ireturn, 25, 3) := by decide +kernel
theorem f208_0 : z_fetch 208 0 = some (.getstatic 0, 3, 0) := by decide +kernel
theorem f208_3 : z_fetch 208 3 = some (.ifCond .eq 0, 6, 13) := by decide +kernel
theorem f208_6 : z_fetch 208 6 = some (.aload 0, 7, 0) := by decide +kernel
theorem f208_7 : z_fetch 208 7 = some (.fload 1, 10, 0) := by decide +kernel
theorem f208_10 : z_fetch 208 10 = some (.goto 0, 13, 14) := by decide +kernel
theorem f208_13 : z_fetch 208 13 = some (.iconst 1, 14, 0) := by decide +kernel
theorem f208_14 : z_fetch 208 14 = some (.ireturn, 15, 2) := by decide +kernel
theorem f209_0 : z_fetch 209 0 = some (.getstatic 0, 3, 0) := by decide +kernel
theorem f209_3 : z_fetch 209 3 = some (.ifCond .eq 0, 6, 17) := by decide +kernel
theorem f209_6 : z_fetch 209 6 = some (.aload 0, 7, 0) := by decide +kernel
theorem f209_7 : z_fetch 209 7 = some (.fload 1, 10, 0) := by decide +kernel
theorem f209_10 : z_fetch 209 10 = some (.ifCond .ne 0, 13, 17) := by decide +kernel
theorem f209_13 : z_fetch 209 13 = some (.iconst 1, 14, 0) := by decide +kernel
theorem f209_14 : z_fetch 209 14 = some (.goto 0, 17, 18) := by decide +kernel
theorem f209_17 : z_fetch 209 17 = some (.iconst 0, 18, 0) := by decide +kernel
theorem f209_18 : z_fetch 209 18 = some (.ireturn, 19, 1) := by decide +kernel
theorem f210_0 : z_fetch 210 0 = some (.iload 0, 1, 0) := by decide +kernel
theorem f210_1 : z_fetch 210 1 = some (.iload 1, 2, 0) := by decide +kernel
theorem f210_2 : z_fetch 210 2 = some (.getstatic 1, 5, 0) := by decide +kernel
theorem f210_5 : z_fetch 210 5 = some (.invokestatic 214, 8, 0) := by decide +kernel
theorem f210_8 : z_fetch 210 8 = some (.pop, 9, 0) := by decide +kernel
theorem f210_9 : z_fetch 210 9 = some (.return_, 10, 0) := by decide +kernel
theorem f211_0 : z_fetch 211 0 = some (.iload 1, 1, 0) := by decide +kernel
theorem f211_1 : z_fetch 211 1 = some (.aload 0, 2, 0) := by decide +kernel
theorem f211_2 : z_fetch 211 2 = some (.arraylength, 3, 0) := by decide +kernel
theorem f211_3 : z_fetch 211 3 = some (.invokestatic 210, 6, 0) := by decide +kernel
theorem f211_6 : z_fetch 211 6 = some (.aload 0, 7, 0) := by decide +kernel
theorem f211_7 : z_fetch 211 7 = some (.iload 1, 8, 0) := by decide +kernel
theorem f211_8 : z_fetch 211 8 = some (.baload, 9, 0) := by decide +kernel
theorem f211_9 : z_fetch 211 9 = some (.iconst 255, 12, 0) := by decide +kernel
theorem f211_12 : z_fetch 211 12 = some (.iand, 13, 0) := by decide +kernel
theorem f211_13 : z_fetch 211 13 = some (.i2c, 14, 0) := by decide +kernel
theorem f211_14 : z_fetch 211 14 = some (.ireturn, 15, 3) := by decide +kernel
theorem f212_0 : z_fetch 212 0 = some (.iconst 0, 1, 0) := by decide +kernel
theorem f212_1 : z_fetch 212 1 = some (.istore 2, 2, 0) := by decide +kernel
theorem f212_2 : z_fetch 212 2 = some (.aload 0, 3, 0) := by decide +kernel
theorem f212_3 : z_fetch 212 3 = some (.arraylength, 4, 0) := by decide +kernel
theorem f212_4 : z_fetch 212 4 = some (.istore 3, 5, 0) := by decide +kernel
theorem f212_5 : z_fetch 212 5 = some (.iload 2, 6, 0) := by decide +kernel
theorem f212_6 : z_fetch 212 6 = some (.iload 3, 7, 0) := by decide +kernel
theorem f212_7 : z_fetch 212 7 = some (.if_icmp .ge 0, 10, 20) := by decide +kernel
theorem f212_10 : z_fetch 212 10 = some (.aload 0, 11, 0) := by decide +kernel
theorem f212_11 : z_fetch 212 11 = some (.iload 2, 12, 0) := by decide +kernel
theorem f212_12 : z_fetch 212 12 = some (.iload 1, 13, 0) := by decide +kernel
theorem f212_13 : z_fetch 212 13 = some (.iastore, 14, 0) := by decide +kernel
theorem f212_14 : z_fetch 212 14 = some (.iinc 2 1, 17, 0) := by decide +kernel
theorem f212_17 : z_fetch 212 17 = some (.goto 0, 20, 5) := by decide +kernel
theorem f212_20 : z_fetch 212 20 = some (.return_, 21, 0) := by decide +kernel
theorem f213_0 : z_fetch 213 0 = some (.iload 1, 1, 0) := by decide +kernel
theorem f213_1 : z_fetch 213 1 = some (.aload 0, 2, 0) := by decide +kernel
theorem f213_2 : z_fetch 213 2 = some (.arraylength, 3, 0) := by decide +kernel
theorem f213_3 : z_fetch 213 3 = some (.if_icmp .ne 0, 6, 14) := by decide +kernel
theorem f213_6 : z_fetch 213 6 = some (.aload 0, 7, 0) := by decide +kernel
theorem f213_7 : z_fetch 213 7 = some (.monitorexit, 10, 0) := by decide +kernel
theorem f213_10 : z_fetch 213 10 = some (.checkcast 0, 13, 0) := by decide +kernel
theorem f213_13 : z_fetch 213 13 = some (.areturn, 14, 0) := by decide +kernel
theorem f213_14 : z_fetch 213 14 = some (.iload 1, 15, 0) := by decide +kernel
theorem f213_15 : z_fetch 213 15 = some (.newarray .int, 17, 0) := by decide +kernel
theorem f213_17 : z_fetch 213 17 = some (.astore 2, 18, 0) := by decide +kernel
theorem f213_18 : z_fetch 213 18 = some (.aload 0, 19, 0) := by decide +kernel
theorem f213_19 : z_fetch 213 19 = some (.iconst 0, 20, 0) := by decide +kernel
theorem f213_20 : z_fetch 213 20 = some (.aload 2, 21, 0) := by decide +kernel
theorem f213_21 : z_fetch 213 21 = some (.iconst 0, 22, 0) := by decide +kernel
theorem f213_22 : z_fetch 213 22 = some (.aload 0, 23, 0) := by decide +kernel
theorem f213_23 : z_fetch 213 23 = some (.arraylength, 24, 0) := by decide +kernel
theorem f213_24 : z_fetch 213 24 = some (.iload 1, 25, 0) := by decide +kernel
theorem f213_25 : z_fetch 213 25 = some (.fneg, 28, 0) := by decide +kernel
theorem f213_28 : z_fetch 213 28 = some (.swap, 31, 0) := by decide +kernel
theorem f213_31 : z_fetch 213 31 = some (.aload 2, 32, 0) := by decide +kernel
theorem f213_32 : z_fetch 213 32 = some (.areturn, 33, 0) := by decide +kernel
theorem f214_0 : z_fetch 214 0 = some (.iload 0, 1, 0) := by decide +kernel
theorem f214_1 : z_fetch 214 1 = some (.ifCond .lt 0, 4, 9) := by decide +kernel
theorem f214_4 : z_fetch 214 4 = some (.iload 0, 5, 0) := by decide +kernel
theorem f214_5 : z_fetch 214 5 = some (.iload 1, 6, 0) := by decide +kernel
theorem f214_6 : z_fetch 214 6 = some (.if_icmp .lt 0, 9, 16) := by decide +kernel
theorem f214_9 : z_fetch 214 9 = some (.aload 2, 10, 0) := by decide +kernel
theorem f214_10 : z_fetch 214 10 = some (.iload 0, 11, 0) := by decide +kernel
theorem f214_11 : z_fetch 214 11 = some (.iload 1, 12, 0) := by decide +kernel
theorem f214_16 : z_fetch 214 16 = some (.iload 0, 17, 0) := by decide +kernel
theorem f214_17 : z_fetch 214 17 = some (.ireturn, 18, 0) := by decide +kernel
theorem f215_0 : z_fetch 215 0 = some (.new 10, 3, 0) := by decide +kernel
theorem f215_3 : z_fetch 215 3 = some (.dup, 4, 0) := by decide +kernel
theorem f215_4 : z_fetch 215 4 = some (.invokespecial 70, 7, 0) := by decide +kernel
theorem f215_7 : z_fetch 215 7 = some (.astore 1, 8, 0) := by decide +kernel
theorem f215_8 : z_fetch 215 8 = some (.new 11, 11, 0) := by decide +kernel
theorem f215_11 : z_fetch 215 11 = some (.dup, 12, 0) := by decide +kernel
theorem f215_12 : z_fetch 215 12 = some (.invokespecial 109, 15, 0) := by decide +kernel
theorem f215_15 : z_fetch 215 15 = some (.astore 2, 16, 0) := by decide +kernel
theorem f215_16 : z_fetch 215 16 = some (.iconst 0, 17, 0) := by decide +kernel
theorem f215_17 : z_fetch 215 17 = some (.istore 3, 18, 0) := by decide +kernel
theorem f215_18 : z_fetch 215 18 = some (.iload 3, 19, 0) := by decide +kernel
theorem f215_19 : z_fetch 215 19 = some (.aload 0, 20, 0) := by decide +kernel
theorem f215_20 : z_fetch 215 20 = some (.arraylength, 21, 0) := by decide +kernel
theorem f215_21 : z_fetch 215 21 = some (.iconst 6, 23, 0) := by decide +kernel
theorem f215_23 : z_fetch 215 23 = some (.isub, 24, 0) := by decide +kernel
theorem f215_24 : z_fetch 215 24 = some (.if_icmp .gt 0, 27, 913) := by decide +kernel
theorem f215_27 : z_fetch 215 27 = some (.aload 0, 28, 0) := by decide +kernel
theorem f215_28 : z_fetch 215 28 = some (.iload 3, 29, 0) := by decide +kernel
theorem f215_29 : z_fetch 215 29 = some (.iaload, 30, 0) := by decide +kernel
theorem f215_30 : z_fetch 215 30 = some (.iconst 31, 32, 0) := by decide +kernel
theorem f215_32 : z_fetch 215 32 = some (.iand, 33, 0) := by decide +kernel
theorem f215_33 : z_fetch 215 33 = some (.tableswitch 0 0 26 #[156, 219, 242, 255, 268, 291, 324, 357, 390, 423, 446, 469, 502, 545, 568, 591, 604, 617, 640, 673, 706, 739, 762, 785, 838, 861, 884], 156, 907) := by decide +kernel
theorem f215_156 : z_fetch 215 156 = some (.aload 1, 157, 0) := by decide +kernel
theorem f215_157 : z_fetch 215 157 = some (.aload 0, 158, 0) := by decide +kernel
theorem f215_158 : z_fetch 215 158 = some (.iload 3, 159, 0) := by decide +kernel
theorem f215_159 : z_fetch 215 159 = some (.iconst 1, 160, 0) := by decide +kernel
theorem f215_160 : z_fetch 215 160 = some (.iadd, 161, 0) := by decide +kernel
theorem f215_161 : z_fetch 215 161 = some (.iaload, 162, 0) := by decide +kernel
theorem f215_162 : z_fetch 215 162 = some (.aload 0, 163, 0) := by decide +kernel
theorem f215_163 : z_fetch 215 163 = some (.iload 3, 164, 0) := by decide +kernel
theorem f215_164 : z_fetch 215 164 = some (.iconst 2, 165, 0) := by decide +kernel
theorem f215_165 : z_fetch 215 165 = some (.iadd, 166, 0) := by decide +kernel
theorem f215_166 : z_fetch 215 166 = some (.iaload, 167, 0) := by decide +kernel
theorem f215_167 : z_fetch 215 167 = some (.aload 0, 168, 0) := by decide +kernel
theorem f215_168 : z_fetch 215 168 = some (.iload 3, 169, 0) := by decide +kernel
theorem f215_169 : z_fetch 215 169 = some (.iconst 3, 170, 0) := by decide +kernel
theorem f215_170 : z_fetch 215 170 = some (.iadd, 171, 0) := by decide +kernel
theorem f215_171 : z_fetch 215 171 = some (.iaload, 172, 0) := by decide +kernel
theorem f215_172 : z_fetch 215 172 = some (.aload 0, 173, 0) := by decide +kernel
theorem f215_173 : z_fetch 215 173 = some (.iload 3, 174, 0) := by decide +kernel
theorem f215_174 : z_fetch 215 174 = some (.iconst 4, 175, 0) := by decide +kernel
theorem f215_175 : z_fetch 215 175 = some (.iadd, 176, 0) := by decide +kernel
theorem f215_176 : z_fetch 215 176 = some (.iaload, 177, 0) := by decide +kernel
theorem f215_177 : z_fetch 215 177 = some (.aload 0, 178, 0) := by decide +kernel
theorem f215_178 : z_fetch 215 178 = some (.iload 3, 179, 0) := by decide +kernel
theorem f215_179 : z_fetch 215 179 = some (.iconst 5, 180, 0) := by decide +kernel
theorem f215_180 : z_fetch 215 180 = some (.iadd, 181, 0) := by decide +kernel
theorem f215_181 : z_fetch 215 181 = some (.iaload, 182, 0) := by decide +kernel
theorem f215_182 : z_fetch 215 182 = some (.invokevirtual 71, 185, 0) := by decide +kernel
theorem f215_185 : z_fetch 215 185 = some (.aload 2, 186, 0) := by decide +kernel
theorem f215_186 : z_fetch 215 186 = some (.aload 0, 187, 0) := by decide +kernel
theorem f215_187 : z_fetch 215 187 = some (.iload 3, 188, 0) := by decide +kernel
theorem f215_188 : z_fetch 215 188 = some (.iconst 1, 189, 0) := by decide +kernel
theorem f215_189 : z_fetch 215 189 = some (.iadd, 190, 0) := by decide +kernel
theorem f215_190 : z_fetch 215 190 = some (.iaload, 191, 0) := by decide +kernel
theorem f215_191 : z_fetch 215 191 = some (.aload 0, 192, 0) := by decide +kernel
theorem f215_192 : z_fetch 215 192 = some (.iload 3, 193, 0) := by decide +kernel
theorem f215_193 : z_fetch 215 193 = some (.iconst 2, 194, 0) := by decide +kernel
theorem f215_194 : z_fetch 215 194 = some (.iadd, 195, 0) := by decide +kernel
theorem f215_195 : z_fetch 215 195 = some (.iaload, 196, 0) := by decide +kernel
theorem f215_196 : z_fetch 215 196 = some (.aload 0, 197, 0) := by decide +kernel
theorem f215_197 : z_fetch 215 197 = some (.iload 3, 198, 0) := by decide +kernel
theorem f215_198 : z_fetch 215 198 = some (.iconst 3, 199, 0) := by decide +kernel
theorem f215_199 : z_fetch 215 199 = some (.iadd, 200, 0) := by decide +kernel
theorem f215_200 : z_fetch 215 200 = some (.iaload, 201, 0) := by decide +kernel
theorem f215_201 : z_fetch 215 201 = some (.aload 0, 202, 0) := by decide +kernel
theorem f215_202 : z_fetch 215 202 = some (.iload 3, 203, 0) := by decide +kernel
theorem f215_203 : z_fetch 215 203 = some (.iconst 4, 204, 0) := by decide +kernel
theorem f215_204 : z_fetch 215 204 = some (.iadd, 205, 0) := by decide +kernel
theorem f215_205 : z_fetch 215 205 = some (.iaload, 206, 0) := by decide +kernel
theorem f215_206 : z_fetch 215 206 = some (.aload 0, 207, 0) := by decide +kernel
theorem f215_207 : z_fetch 215 207 = some (.iload 3, 208, 0) := by decide +kernel
theorem f215_208 : z_fetch 215 208 = some (.iconst 5, 209, 0) := by decide +kernel
theorem f215_209 : z_fetch 215 209 = some (.iadd, 210, 0) := by decide +kernel
theorem f215_210 : z_fetch 215 210 = some (.iaload, 211, 0) := by decide +kernel
theorem f215_211 : z_fetch 215 211 = some (.invokevirtual 114, 214, 0) := by decide +kernel
theorem f215_214 : z_fetch 215 214 = some (.if_icmp .eq 0, 217, 907) := by decide +kernel
theorem f215_217 : z_fetch 215 217 = some (.iconst 0, 218, 0) := by decide +kernel
theorem f215_218 : z_fetch 215 218 = some (.ireturn, 219, 1) := by decide +kernel
theorem f215_219 : z_fetch 215 219 = some (.aload 1, 220, 0) := by decide +kernel
theorem f215_220 : z_fetch 215 220 = some (.aload 0, 221, 0) := by decide +kernel
theorem f215_221 : z_fetch 215 221 = some (.iload 3, 222, 0) := by decide +kernel
theorem f215_222 : z_fetch 215 222 = some (.iconst 1, 223, 0) := by decide +kernel
theorem f215_223 : z_fetch 215 223 = some (.iadd, 224, 0) := by decide +kernel
theorem f215_224 : z_fetch 215 224 = some (.iaload, 225, 0) := by decide +kernel
theorem f215_225 : z_fetch 215 225 = some (.invokevirtual 72, 228, 0) := by decide +kernel
theorem f215_228 : z_fetch 215 228 = some (.aload 2, 229, 0) := by decide +kernel
theorem f215_229 : z_fetch 215 229 = some (.aload 0, 230, 0) := by decide +kernel
theorem f215_230 : z_fetch 215 230 = some (.iload 3, 231, 0) := by decide +kernel
theorem f215_231 : z_fetch 215 231 = some (.iconst 1, 232, 0) := by decide +kernel
theorem f215_232 : z_fetch 215 232 = some (.iadd, 233, 0) := by decide +kernel
theorem f215_233 : z_fetch 215 233 = some (.iaload, 234, 0) := by decide +kernel
theorem f215_234 : z_fetch 215 234 = some (.invokevirtual 115, 237, 0) := by decide +kernel
theorem f215_237 : z_fetch 215 237 = some (.if_icmp .eq 0, 240, 907) := by decide +kernel
theorem f215_240 : z_fetch 215 240 = some (.iconst 0, 241, 0) := by decide +kernel
theorem f215_241 : z_fetch 215 241 = some (.ireturn, 242, 1) := by decide +kernel
theorem f215_242 : z_fetch 215 242 = some (.aload 1, 243, 0) := by decide +kernel
theorem f215_243 : z_fetch 215 243 = some (.invokevirtual 73, 246, 0) := by decide +kernel
theorem f215_246 : z_fetch 215 246 = some (.aload 2, 247, 0) := by decide +kernel
theorem f215_247 : z_fetch 215 247 = some (.invokevirtual 147, 250, 0) := by decide +kernel
theorem f215_250 : z_fetch 215 250 = some (.if_icmp .eq 0, 253, 907) := by decide +kernel
theorem f215_253 : z_fetch 215 253 = some (.iconst 0, 254, 0) := by decide +kernel
theorem f215_254 : z_fetch 215 254 = some (.ireturn, 255, 1) := by decide +kernel
theorem f215_255 : z_fetch 215 255 = some (.aload 1, 256, 0) := by decide +kernel
theorem f215_256 : z_fetch 215 256 = some (.invokevirtual 74, 259, 0) := by decide +kernel
theorem f215_259 : z_fetch 215 259 = some (.aload 2, 260, 0) := by decide +kernel
theorem f215_260 : z_fetch 215 260 = some (.invokevirtual 146, 263, 0) := by decide +kernel
theorem f215_263 : z_fetch 215 263 = some (.if_icmp .eq 0, 266, 907) := by decide +kernel
theorem f215_266 : z_fetch 215 266 = some (.iconst 0, 267, 0) := by decide +kernel
theorem f215_267 : z_fetch 215 267 = some (.ireturn, 268, 1) := by decide +kernel
theorem f215_268 : z_fetch 215 268 = some (.aload 1, 269, 0) := by decide +kernel
theorem f215_269 : z_fetch 215 269 = some (.aload 0, 270, 0) := by decide +kernel
theorem f215_270 : z_fetch 215 270 = some (.iload 3, 271, 0) := by decide +kernel
theorem f215_271 : z_fetch 215 271 = some (.iconst 1, 272, 0) := by decide +kernel
theorem f215_272 : z_fetch 215 272 = some (.iadd, 273, 0) := by decide +kernel
theorem f215_273 : z_fetch 215 273 = some (.iaload, 274, 0) := by decide +kernel
theorem f215_274 : z_fetch 215 274 = some (.invokevirtual 75, 277, 0) := by decide +kernel
theorem f215_277 : z_fetch 215 277 = some (.aload 2, 278, 0) := by decide +kernel
theorem f215_278 : z_fetch 215 278 = some (.aload 0, 279, 0) := by decide +kernel
theorem f215_279 : z_fetch 215 279 = some (.iload 3, 280, 0) := by decide +kernel
theorem f215_280 : z_fetch 215 280 = some (.iconst 1, 281, 0) := by decide +kernel
theorem f215_281 : z_fetch 215 281 = some (.iadd, 282, 0) := by decide +kernel
theorem f215_282 : z_fetch 215 282 = some (.iaload, 283, 0) := by decide +kernel
theorem f215_283 : z_fetch 215 283 = some (.invokevirtual 161, 286, 0) := by decide +kernel
theorem f215_286 : z_fetch 215 286 = some (.if_icmp .eq 0, 289, 907) := by decide +kernel
theorem f215_289 : z_fetch 215 289 = some (.iconst 0, 290, 0) := by decide +kernel
theorem f215_290 : z_fetch 215 290 = some (.ireturn, 291, 1) := by decide +kernel
theorem f215_291 : z_fetch 215 291 = some (.aload 1, 292, 0) := by decide +kernel
theorem f215_292 : z_fetch 215 292 = some (.aload 0, 293, 0) := by decide +kernel
theorem f215_293 : z_fetch 215 293 = some (.iload 3, 294, 0) := by decide +kernel
theorem f215_294 : z_fetch 215 294 = some (.iconst 1, 295, 0) := by decide +kernel
theorem f215_295 : z_fetch 215 295 = some (.iadd, 296, 0) := by decide +kernel
theorem f215_296 : z_fetch 215 296 = some (.iaload, 297, 0) := by decide +kernel
theorem f215_297 : z_fetch 215 297 = some (.aload 0, 298, 0) := by decide +kernel
theorem f215_298 : z_fetch 215 298 = some (.iload 3, 299, 0) := by decide +kernel
theorem f215_299 : z_fetch 215 299 = some (.iconst 2, 300, 0) := by decide +kernel
theorem f215_300 : z_fetch 215 300 = some (.iadd, 301, 0) := by decide +kernel
theorem f215_301 : z_fetch 215 301 = some (.iaload, 302, 0) := by decide +kernel
theorem f215_302 : z_fetch 215 302 = some (.invokevirtual 76, 305, 0) := by decide +kernel
theorem f215_305 : z_fetch 215 305 = some (.aload 2, 306, 0) := by decide +kernel
theorem f215_306 : z_fetch 215 306 = some (.aload 0, 307, 0) := by decide +kernel
theorem f215_307 : z_fetch 215 307 = some (.iload 3, 308, 0) := by decide +kernel
theorem f215_308 : z_fetch 215 308 = some (.iconst 1, 309, 0) := by decide +kernel
theorem f215_309 : z_fetch 215 309 = some (.iadd, 310, 0) := by decide +kernel
theorem f215_310 : z_fetch 215 310 = some (.iaload, 311, 0) := by decide +kernel
theorem f215_311 : z_fetch 215 311 = some (.aload 0, 312, 0) := by decide +kernel
theorem f215_312 : z_fetch 215 312 = some (.iload 3, 313, 0) := by decide +kernel
theorem f215_313 : z_fetch 215 313 = some (.iconst 2, 314, 0) := by decide +kernel
theorem f215_314 : z_fetch 215 314 = some (.iadd, 315, 0) := by decide +kernel
theorem f215_315 : z_fetch 215 315 = some (.iaload, 316, 0) := by decide +kernel
theorem f215_316 : z_fetch 215 316 = some (.invokevirtual 162, 319, 0) := by decide +kernel
theorem f215_319 : z_fetch 215 319 = some (.if_icmp .eq 0, 322, 907) := by decide +kernel
theorem f215_322 : z_fetch 215 322 = some (.iconst 0, 323, 0) := by decide +kernel
theorem f215_323 : z_fetch 215 323 = some (.ireturn, 324, 1) := by decide +kernel
theorem f215_324 : z_fetch 215 324 = some (.aload 1, 325, 0) := by decide +kernel
theorem f215_325 : z_fetch 215 325 = some (.aload 0, 326, 0) := by decide +kernel
theorem f215_326 : z_fetch 215 326 = some (.iload 3, 327, 0) := by decide +kernel
theorem f215_327 : z_fetch 215 327 = some (.iconst 1, 328, 0) := by decide +kernel
theorem f215_328 : z_fetch 215 328 = some (.iadd, 329, 0) := by decide +kernel
theorem f215_329 : z_fetch 215 329 = some (.iaload, 330, 0) := by decide +kernel
theorem f215_330 : z_fetch 215 330 = some (.aload 0, 331, 0) := by decide +kernel
theorem f215_331 : z_fetch 215 331 = some (.iload 3, 332, 0) := by decide +kernel
theorem f215_332 : z_fetch 215 332 = some (.iconst 2, 333, 0) := by decide +kernel
theorem f215_333 : z_fetch 215 333 = some (.iadd, 334, 0) := by decide +kernel
theorem f215_334 : z_fetch 215 334 = some (.iaload, 335, 0) := by decide +kernel
theorem f215_335 : z_fetch 215 335 = some (.invokevirtual 77, 338, 0) := by decide +kernel
theorem f215_338 : z_fetch 215 338 = some (.aload 2, 339, 0) := by decide +kernel
theorem f215_339 : z_fetch 215 339 = some (.aload 0, 340, 0) := by decide +kernel
theorem f215_340 : z_fetch 215 340 = some (.iload 3, 341, 0) := by decide +kernel
theorem f215_341 : z_fetch 215 341 = some (.iconst 1, 342, 0) := by decide +kernel
theorem f215_342 : z_fetch 215 342 = some (.iadd, 343, 0) := by decide +kernel
theorem f215_343 : z_fetch 215 343 = some (.iaload, 344, 0) := by decide +kernel
theorem f215_344 : z_fetch 215 344 = some (.aload 0, 345, 0) := by decide +kernel
theorem f215_345 : z_fetch 215 345 = some (.iload 3, 346, 0) := by decide +kernel
theorem f215_346 : z_fetch 215 346 = some (.iconst 2, 347, 0) := by decide +kernel
theorem f215_347 : z_fetch 215 347 = some (.iadd, 348, 0) := by decide +kernel
theorem f215_348 : z_fetch 215 348 = some (.iaload, 349, 0) := by decide +kernel
theorem f215_349 : z_fetch 215 349 = some (.invokevirtual 163, 352, 0) := by decide +kernel
theorem f215_352 : z_fetch 215 352 = some (.if_icmp .eq 0, 355, 907) := by decide +kernel
theorem f215_355 : z_fetch 215 355 = some (.iconst 0, 356, 0) := by decide +kernel
theorem f215_356 : z_fetch 215 356 = some (.ireturn, 357, 1) := by decide +kernel
theorem f215_357 : z_fetch 215 357 = some (.aload 1, 358, 0) := by decide +kernel
theorem f215_358 : z_fetch 215 358 = some (.aload 0, 359, 0) := by decide +kernel
theorem f215_359 : z_fetch 215 359 = some (.iload 3, 360, 0) := by decide +kernel
theorem f215_360 : z_fetch 215 360 = some (.iconst 1, 361, 0) := by decide +kernel
theorem f215_361 : z_fetch 215 361 = some (.iadd, 362, 0) := by decide +kernel
theorem f215_362 : z_fetch 215 362 = some (.iaload, 363, 0) := by decide +kernel
theorem f215_363 : z_fetch 215 363 = some (.aload 0, 364, 0) := by decide +kernel
theorem f215_364 : z_fetch 215 364 = some (.iload 3, 365, 0) := by decide +kernel
theorem f215_365 : z_fetch 215 365 = some (.iconst 2, 366, 0) := by decide +kernel
theorem f215_366 : z_fetch 215 366 = some (.iadd, 367, 0) := by decide +kernel
theorem f215_367 : z_fetch 215 367 = some (.iaload, 368, 0) := by decide +kernel
theorem f215_368 : z_fetch 215 368 = some (.invokevirtual 78, 371, 0) := by decide +kernel
theorem f215_371 : z_fetch 215 371 = some (.aload 2, 372, 0) := by decide +kernel
theorem f215_372 : z_fetch 215 372 = some (.aload 0, 373, 0) := by decide +kernel
theorem f215_373 : z_fetch 215 373 = some (.iload 3, 374, 0) := by decide +kernel
theorem f215_374 : z_fetch 215 374 = some (.iconst 1, 375, 0) := by decide +kernel
theorem f215_375 : z_fetch 215 375 = some (.iadd, 376, 0) := by decide +kernel
theorem f215_376 : z_fetch 215 376 = some (.iaload, 377, 0) := by decide +kernel
theorem f215_377 : z_fetch 215 377 = some (.aload 0, 378, 0) := by decide +kernel
theorem f215_378 : z_fetch 215 378 = some (.iload 3, 379, 0) := by decide +kernel
theorem f215_379 : z_fetch 215 379 = some (.iconst 2, 380, 0) := by decide +kernel
theorem f215_380 : z_fetch 215 380 = some (.iadd, 381, 0) := by decide +kernel
theorem f215_381 : z_fetch 215 381 = some (.iaload, 382, 0) := by decide +kernel
theorem f215_382 : z_fetch 215 382 = some (.invokevirtual 164, 385, 0) := by decide +kernel
theorem f215_385 : z_fetch 215 385 = some (.if_icmp .eq 0, 388, 907) := by decide +kernel
theorem f215_388 : z_fetch 215 388 = some (.iconst 0, 389, 0) := by decide +kernel
theorem f215_389 : z_fetch 215 389 = some (.ireturn, 390, 1) := by decide +kernel
theorem f215_390 : z_fetch 215 390 = some (.aload 1, 391, 0) := by decide +kernel
theorem f215_391 : z_fetch 215 391 = some (.aload 0, 392, 0) := by decide +kernel
theorem f215_392 : z_fetch 215 392 = some (.iload 3, 393, 0) := by decide +kernel
theorem f215_393 : z_fetch 215 393 = some (.iconst 1, 394, 0) := by decide +kernel
theorem f215_394 : z_fetch 215 394 = some (.iadd, 395, 0) := by decide +kernel
theorem f215_395 : z_fetch 215 395 = some (.iaload, 396, 0) := by decide +kernel
theorem f215_396 : z_fetch 215 396 = some (.aload 0, 397, 0) := by decide +kernel
theorem f215_397 : z_fetch 215 397 = some (.iload 3, 398, 0) := by decide +kernel
theorem f215_398 : z_fetch 215 398 = some (.iconst 2, 399, 0) := by decide +kernel
theorem f215_399 : z_fetch 215 399 = some (.iadd, 400, 0) := by decide +kernel
theorem f215_400 : z_fetch 215 400 = some (.iaload, 401, 0) := by decide +kernel
theorem f215_401 : z_fetch 215 401 = some (.invokevirtual 79, 404, 0) := by decide +kernel
theorem f215_404 : z_fetch 215 404 = some (.aload 2, 405, 0) := by decide +kernel
theorem f215_405 : z_fetch 215 405 = some (.aload 0, 406, 0) := by decide +kernel
theorem f215_406 : z_fetch 215 406 = some (.iload 3, 407, 0) := by decide +kernel
theorem f215_407 : z_fetch 215 407 = some (.iconst 1, 408, 0) := by decide +kernel
theorem f215_408 : z_fetch 215 408 = some (.iadd, 409, 0) := by decide +kernel
theorem f215_409 : z_fetch 215 409 = some (.iaload, 410, 0) := by decide +kernel
theorem f215_410 : z_fetch 215 410 = some (.aload 0, 411, 0) := by decide +kernel
theorem f215_411 : z_fetch 215 411 = some (.iload 3, 412, 0) := by decide +kernel
theorem f215_412 : z_fetch 215 412 = some (.iconst 2, 413, 0) := by decide +kernel
theorem f215_413 : z_fetch 215 413 = some (.iadd, 414, 0) := by decide +kernel
theorem f215_414 : z_fetch 215 414 = some (.iaload, 415, 0) := by decide +kernel
theorem f215_415 : z_fetch 215 415 = some (.invokevirtual 174, 418, 0) := by decide +kernel
theorem f215_418 : z_fetch 215 418 = some (.if_icmp .eq 0, 421, 907) := by decide +kernel
theorem f215_421 : z_fetch 215 421 = some (.iconst 0, 422, 0) := by decide +kernel
theorem f215_422 : z_fetch 215 422 = some (.ireturn, 423, 1) := by decide +kernel
theorem f215_423 : z_fetch 215 423 = some (.aload 1, 424, 0) := by decide +kernel
theorem f215_424 : z_fetch 215 424 = some (.aload 0, 425, 0) := by decide +kernel
theorem f215_425 : z_fetch 215 425 = some (.iload 3, 426, 0) := by decide +kernel
theorem f215_426 : z_fetch 215 426 = some (.iconst 1, 427, 0) := by decide +kernel
theorem f215_427 : z_fetch 215 427 = some (.iadd, 428, 0) := by decide +kernel
theorem f215_428 : z_fetch 215 428 = some (.iaload, 429, 0) := by decide +kernel
theorem f215_429 : z_fetch 215 429 = some (.invokevirtual 80, 432, 0) := by decide +kernel
theorem f215_432 : z_fetch 215 432 = some (.aload 2, 433, 0) := by decide +kernel
theorem f215_433 : z_fetch 215 433 = some (.aload 0, 434, 0) := by decide +kernel
theorem f215_434 : z_fetch 215 434 = some (.iload 3, 435, 0) := by decide +kernel
theorem f215_435 : z_fetch 215 435 = some (.iconst 1, 436, 0) := by decide +kernel
theorem f215_436 : z_fetch 215 436 = some (.iadd, 437, 0) := by decide +kernel
theorem f215_437 : z_fetch 215 437 = some (.iaload, 438, 0) := by decide +kernel
theorem f215_438 : z_fetch 215 438 = some (.invokevirtual 175, 441, 0) := by decide +kernel
theorem f215_441 : z_fetch 215 441 = some (.if_icmp .eq 0, 444, 907) := by decide +kernel
theorem f215_444 : z_fetch 215 444 = some (.iconst 0, 445, 0) := by decide +kernel
theorem f215_445 : z_fetch 215 445 = some (.ireturn, 446, 1) := by decide +kernel
theorem f215_446 : z_fetch 215 446 = some (.aload 1, 447, 0) := by decide +kernel
theorem f215_447 : z_fetch 215 447 = some (.aload 0, 448, 0) := by decide +kernel
theorem f215_448 : z_fetch 215 448 = some (.iload 3, 449, 0) := by decide +kernel
theorem f215_449 : z_fetch 215 449 = some (.iconst 1, 450, 0) := by decide +kernel
theorem f215_450 : z_fetch 215 450 = some (.iadd, 451, 0) := by decide +kernel
theorem f215_451 : z_fetch 215 451 = some (.iaload, 452, 0) := by decide +kernel
theorem f215_452 : z_fetch 215 452 = some (.invokevirtual 81, 455, 0) := by decide +kernel
theorem f215_455 : z_fetch 215 455 = some (.aload 2, 456, 0) := by decide +kernel
theorem f215_456 : z_fetch 215 456 = some (.aload 0, 457, 0) := by decide +kernel
theorem f215_457 : z_fetch 215 457 = some (.iload 3, 458, 0) := by decide +kernel
theorem f215_458 : z_fetch 215 458 = some (.iconst 1, 459, 0) := by decide +kernel
theorem f215_459 : z_fetch 215 459 = some (.iadd, 460, 0) := by decide +kernel
theorem f215_460 : z_fetch 215 460 = some (.iaload, 461, 0) := by decide +kernel
theorem f215_461 : z_fetch 215 461 = some (.invokevirtual 176, 464, 0) := by decide +kernel
theorem f215_464 : z_fetch 215 464 = some (.if_icmp .eq 0, 467, 907) := by decide +kernel
theorem f215_467 : z_fetch 215 467 = some (.iconst 0, 468, 0) := by decide +kernel
theorem f215_468 : z_fetch 215 468 = some (.ireturn, 469, 1) := by decide +kernel
theorem f215_469 : z_fetch 215 469 = some (.aload 1, 470, 0) := by decide +kernel
theorem f215_470 : z_fetch 215 470 = some (.aload 0, 471, 0) := by decide +kernel
theorem f215_471 : z_fetch 215 471 = some (.iload 3, 472, 0) := by decide +kernel
theorem f215_472 : z_fetch 215 472 = some (.iconst 1, 473, 0) := by decide +kernel
theorem f215_473 : z_fetch 215 473 = some (.iadd, 474, 0) := by decide +kernel
theorem f215_474 : z_fetch 215 474 = some (.iaload, 475, 0) := by decide +kernel
theorem f215_475 : z_fetch 215 475 = some (.aload 0, 476, 0) := by decide +kernel
theorem f215_476 : z_fetch 215 476 = some (.iload 3, 477, 0) := by decide +kernel
theorem f215_477 : z_fetch 215 477 = some (.iconst 2, 478, 0) := by decide +kernel
theorem f215_478 : z_fetch 215 478 = some (.iadd, 479, 0) := by decide +kernel
theorem f215_479 : z_fetch 215 479 = some (.iaload, 480, 0) := by decide +kernel
theorem f215_480 : z_fetch 215 480 = some (.invokevirtual 82, 483, 0) := by decide +kernel
theorem f215_483 : z_fetch 215 483 = some (.aload 2, 484, 0) := by decide +kernel
theorem f215_484 : z_fetch 215 484 = some (.aload 0, 485, 0) := by decide +kernel
theorem f215_485 : z_fetch 215 485 = some (.iload 3, 486, 0) := by decide +kernel
theorem f215_486 : z_fetch 215 486 = some (.iconst 1, 487, 0) := by decide +kernel
theorem f215_487 : z_fetch 215 487 = some (.iadd, 488, 0) := by decide +kernel
theorem f215_488 : z_fetch 215 488 = some (.iaload, 489, 0) := by decide +kernel
theorem f215_489 : z_fetch 215 489 = some (.aload 0, 490, 0) := by decide +kernel
theorem f215_490 : z_fetch 215 490 = some (.iload 3, 491, 0) := by decide +kernel
theorem f215_491 : z_fetch 215 491 = some (.iconst 2, 492, 0) := by decide +kernel
theorem f215_492 : z_fetch 215 492 = some (.iadd, 493, 0) := by decide +kernel
theorem f215_493 : z_fetch 215 493 = some (.iaload, 494, 0) := by decide +kernel
theorem f215_494 : z_fetch 215 494 = some (.invokevirtual 179, 497, 0) := by decide +kernel
theorem f215_497 : z_fetch 215 497 = some (.if_icmp .eq 0, 500, 907) := by decide +kernel
theorem f215_500 : z_fetch 215 500 = some (.iconst 0, 501, 0) := by decide +kernel
theorem f215_501 : z_fetch 215 501 = some (.ireturn, 502, 1) := by decide +kernel
theorem f215_502 : z_fetch 215 502 = some (.aload 1, 503, 0) := by decide +kernel
theorem f215_503 : z_fetch 215 503 = some (.aload 0, 504, 0) := by decide +kernel
theorem f215_504 : z_fetch 215 504 = some (.iload 3, 505, 0) := by decide +kernel
theorem f215_505 : z_fetch 215 505 = some (.iconst 1, 506, 0) := by decide +kernel
theorem f215_506 : z_fetch 215 506 = some (.iadd, 507, 0) := by decide +kernel
theorem f215_507 : z_fetch 215 507 = some (.iaload, 508, 0) := by decide +kernel
theorem f215_508 : z_fetch 215 508 = some (.aload 0, 509, 0) := by decide +kernel
theorem f215_509 : z_fetch 215 509 = some (.iload 3, 510, 0) := by decide +kernel
theorem f215_510 : z_fetch 215 510 = some (.iconst 2, 511, 0) := by decide +kernel
theorem f215_511 : z_fetch 215 511 = some (.iadd, 512, 0) := by decide +kernel
theorem f215_512 : z_fetch 215 512 = some (.iaload, 513, 0) := by decide +kernel
theorem f215_513 : z_fetch 215 513 = some (.aload 0, 514, 0) := by decide +kernel
theorem f215_514 : z_fetch 215 514 = some (.iload 3, 515, 0) := by decide +kernel
theorem f215_515 : z_fetch 215 515 = some (.iconst 3, 516, 0) := by decide +kernel
theorem f215_516 : z_fetch 215 516 = some (.iadd, 517, 0) := by decide +kernel
theorem f215_517 : z_fetch 215 517 = some (.iaload, 518, 0) := by decide +kernel
theorem f215_518 : z_fetch 215 518 = some (.invokevirtual 83, 521, 0) := by decide +kernel
theorem f215_521 : z_fetch 215 521 = some (.aload 2, 522, 0) := by decide +kernel
theorem f215_522 : z_fetch 215 522 = some (.aload 0, 523, 0) := by decide +kernel
theorem f215_523 : z_fetch 215 523 = some (.iload 3, 524, 0) := by decide +kernel
theorem f215_524 : z_fetch 215 524 = some (.iconst 1, 525, 0) := by decide +kernel
theorem f215_525 : z_fetch 215 525 = some (.iadd, 526, 0) := by decide +kernel
theorem f215_526 : z_fetch 215 526 = some (.iaload, 527, 0) := by decide +kernel
theorem f215_527 : z_fetch 215 527 = some (.aload 0, 528, 0) := by decide +kernel
theorem f215_528 : z_fetch 215 528 = some (.iload 3, 529, 0) := by decide +kernel
theorem f215_529 : z_fetch 215 529 = some (.iconst 2, 530, 0) := by decide +kernel
theorem f215_530 : z_fetch 215 530 = some (.iadd, 531, 0) := by decide +kernel
theorem f215_531 : z_fetch 215 531 = some (.iaload, 532, 0) := by decide +kernel
theorem f215_532 : z_fetch 215 532 = some (.aload 0, 533, 0) := by decide +kernel
theorem f215_533 : z_fetch 215 533 = some (.iload 3, 534, 0) := by decide +kernel
theorem f215_534 : z_fetch 215 534 = some (.iconst 3, 535, 0) := by decide +kernel
theorem f215_535 : z_fetch 215 535 = some (.iadd, 536, 0) := by decide +kernel
theorem f215_536 : z_fetch 215 536 = some (.iaload, 537, 0) := by decide +kernel
theorem f215_537 : z_fetch 215 537 = some (.invokevirtual 182, 540, 0) := by decide +kernel
theorem f215_540 : z_fetch 215 540 = some (.if_icmp .eq 0, 543, 907) := by decide +kernel
theorem f215_543 : z_fetch 215 543 = some (.iconst 0, 544, 0) := by decide +kernel
theorem f215_544 : z_fetch 215 544 = some (.ireturn, 545, 1) := by decide +kernel
theorem f215_545 : z_fetch 215 545 = some (.aload 1, 546, 0) := by decide +kernel
theorem f215_546 : z_fetch 215 546 = some (.aload 0, 547, 0) := by decide +kernel
theorem f215_547 : z_fetch 215 547 = some (.iload 3, 548, 0) := by decide +kernel
theorem f215_548 : z_fetch 215 548 = some (.iconst 1, 549, 0) := by decide +kernel
theorem f215_549 : z_fetch 215 549 = some (.iadd, 550, 0) := by decide +kernel
theorem f215_550 : z_fetch 215 550 = some (.iaload, 551, 0) := by decide +kernel
theorem f215_551 : z_fetch 215 551 = some (.invokevirtual 84, 554, 0) := by decide +kernel
theorem f215_554 : z_fetch 215 554 = some (.aload 2, 555, 0) := by decide +kernel
theorem f215_555 : z_fetch 215 555 = some (.aload 0, 556, 0) := by decide +kernel
theorem f215_556 : z_fetch 215 556 = some (.iload 3, 557, 0) := by decide +kernel
theorem f215_557 : z_fetch 215 557 = some (.iconst 1, 558, 0) := by decide +kernel
theorem f215_558 : z_fetch 215 558 = some (.iadd, 559, 0) := by decide +kernel
theorem f215_559 : z_fetch 215 559 = some (.iaload, 560, 0) := by decide +kernel
theorem f215_560 : z_fetch 215 560 = some (.invokevirtual 187, 563, 0) := by decide +kernel
theorem f215_563 : z_fetch 215 563 = some (.if_icmp .eq 0, 566, 907) := by decide +kernel
theorem f215_566 : z_fetch 215 566 = some (.iconst 0, 567, 0) := by decide +kernel
theorem f215_567 : z_fetch 215 567 = some (.ireturn, 568, 1) := by decide +kernel
theorem f215_568 : z_fetch 215 568 = some (.aload 1, 569, 0) := by decide +kernel
theorem f215_569 : z_fetch 215 569 = some (.aload 0, 570, 0) := by decide +kernel
theorem f215_570 : z_fetch 215 570 = some (.iload 3, 571, 0) := by decide +kernel
theorem f215_571 : z_fetch 215 571 = some (.iconst 1, 572, 0) := by decide +kernel
theorem f215_572 : z_fetch 215 572 = some (.iadd, 573, 0) := by decide +kernel
theorem f215_573 : z_fetch 215 573 = some (.iaload, 574, 0) := by decide +kernel
theorem f215_574 : z_fetch 215 574 = some (.invokevirtual 85, 577, 0) := by decide +kernel
theorem f215_577 : z_fetch 215 577 = some (.aload 2, 578, 0) := by decide +kernel
theorem f215_578 : z_fetch 215 578 = some (.aload 0, 579, 0) := by decide +kernel
theorem f215_579 : z_fetch 215 579 = some (.iload 3, 580, 0) := by decide +kernel
theorem f215_580 : z_fetch 215 580 = some (.iconst 1, 581, 0) := by decide +kernel
theorem f215_581 : z_fetch 215 581 = some (.iadd, 582, 0) := by decide +kernel
theorem f215_582 : z_fetch 215 582 = some (.iaload, 583, 0) := by decide +kernel
theorem f215_583 : z_fetch 215 583 = some (.invokevirtual 188, 586, 0) := by decide +kernel
theorem f215_586 : z_fetch 215 586 = some (.if_icmp .eq 0, 589, 907) := by decide +kernel
theorem f215_589 : z_fetch 215 589 = some (.iconst 0, 590, 0) := by decide +kernel
theorem f215_590 : z_fetch 215 590 = some (.ireturn, 591, 1) := by decide +kernel
theorem f215_591 : z_fetch 215 591 = some (.aload 1, 592, 0) := by decide +kernel
theorem f215_592 : z_fetch 215 592 = some (.invokevirtual 86, 595, 0) := by decide +kernel
theorem f215_595 : z_fetch 215 595 = some (.aload 2, 596, 0) := by decide +kernel
theorem f215_596 : z_fetch 215 596 = some (.invokevirtual 190, 599, 0) := by decide +kernel
theorem f215_599 : z_fetch 215 599 = some (.if_icmp .eq 0, 602, 907) := by decide +kernel
theorem f215_602 : z_fetch 215 602 = some (.iconst 0, 603, 0) := by decide +kernel
theorem f215_603 : z_fetch 215 603 = some (.ireturn, 604, 1) := by decide +kernel
theorem f215_604 : z_fetch 215 604 = some (.aload 1, 605, 0) := by decide +kernel
theorem f215_605 : z_fetch 215 605 = some (.invokevirtual 87, 608, 0) := by decide +kernel
theorem f215_608 : z_fetch 215 608 = some (.aload 2, 609, 0) := by decide +kernel
theorem f215_609 : z_fetch 215 609 = some (.invokevirtual 191, 612, 0) := by decide +kernel
theorem f215_612 : z_fetch 215 612 = some (.if_icmp .eq 0, 615, 907) := by decide +kernel
theorem f215_615 : z_fetch 215 615 = some (.iconst 0, 616, 0) := by decide +kernel
theorem f215_616 : z_fetch 215 616 = some (.ireturn, 617, 1) := by decide +kernel
theorem f215_617 : z_fetch 215 617 = some (.aload 1, 618, 0) := by decide +kernel
theorem f215_618 : z_fetch 215 618 = some (.aload 0, 619, 0) := by decide +kernel
theorem f215_619 : z_fetch 215 619 = some (.iload 3, 620, 0) := by decide +kernel
theorem f215_620 : z_fetch 215 620 = some (.iconst 1, 621, 0) := by decide +kernel
theorem f215_621 : z_fetch 215 621 = some (.iadd, 622, 0) := by decide +kernel
theorem f215_622 : z_fetch 215 622 = some (.iaload, 623, 0) := by decide +kernel
theorem f215_623 : z_fetch 215 623 = some (.invokevirtual 88, 626, 0) := by decide +kernel
theorem f215_626 : z_fetch 215 626 = some (.aload 2, 627, 0) := by decide +kernel
theorem f215_627 : z_fetch 215 627 = some (.aload 0, 628, 0) := by decide +kernel
theorem f215_628 : z_fetch 215 628 = some (.iload 3, 629, 0) := by decide +kernel
theorem f215_629 : z_fetch 215 629 = some (.iconst 1, 630, 0) := by decide +kernel
theorem f215_630 : z_fetch 215 630 = some (.iadd, 631, 0) := by decide +kernel
theorem f215_631 : z_fetch 215 631 = some (.iaload, 632, 0) := by decide +kernel
theorem f215_632 : z_fetch 215 632 = some (.invokevirtual 193, 635, 0) := by decide +kernel
theorem f215_635 : z_fetch 215 635 = some (.if_icmp .eq 0, 638, 907) := by decide +kernel
theorem f215_638 : z_fetch 215 638 = some (.iconst 0, 639, 0) := by decide +kernel
theorem f215_639 : z_fetch 215 639 = some (.ireturn, 640, 1) := by decide +kernel
theorem f215_640 : z_fetch 215 640 = some (.aload 1, 641, 0) := by decide +kernel
theorem f215_641 : z_fetch 215 641 = some (.aload 0, 642, 0) := by decide +kernel
theorem f215_642 : z_fetch 215 642 = some (.iload 3, 643, 0) := by decide +kernel
theorem f215_643 : z_fetch 215 643 = some (.iconst 1, 644, 0) := by decide +kernel
theorem f215_644 : z_fetch 215 644 = some (.iadd, 645, 0) := by decide +kernel
theorem f215_645 : z_fetch 215 645 = some (.iaload, 646, 0) := by decide +kernel
theorem f215_646 : z_fetch 215 646 = some (.aload 0, 647, 0) := by decide +kernel
theorem f215_647 : z_fetch 215 647 = some (.iload 3, 648, 0) := by decide +kernel
theorem f215_648 : z_fetch 215 648 = some (.iconst 2, 649, 0) := by decide +kernel
theorem f215_649 : z_fetch 215 649 = some (.iadd, 650, 0) := by decide +kernel
theorem f215_650 : z_fetch 215 650 = some (.iaload, 651, 0) := by decide +kernel
theorem f215_651 : z_fetch 215 651 = some (.invokevirtual 89, 654, 0) := by decide +kernel
theorem f215_654 : z_fetch 215 654 = some (.aload 2, 655, 0) := by decide +kernel
theorem f215_655 : z_fetch 215 655 = some (.aload 0, 656, 0) := by decide +kernel
theorem f215_656 : z_fetch 215 656 = some (.iload 3, 657, 0) := by decide +kernel
theorem f215_657 : z_fetch 215 657 = some (.iconst 1, 658, 0) := by decide +kernel
theorem f215_658 : z_fetch 215 658 = some (.iadd, 659, 0) := by decide +kernel
theorem f215_659 : z_fetch 215 659 = some (.iaload, 660, 0) := by decide +kernel
theorem f215_660 : z_fetch 215 660 = some (.aload 0, 661, 0) := by decide +kernel
theorem f215_661 : z_fetch 215 661 = some (.iload 3, 662, 0) := by decide +kernel
theorem f215_662 : z_fetch 215 662 = some (.iconst 2, 663, 0) := by decide +kernel
theorem f215_663 : z_fetch 215 663 = some (.iadd, 664, 0) := by decide +kernel
theorem f215_664 : z_fetch 215 664 = some (.iaload, 665, 0) := by decide +kernel
theorem f215_665 : z_fetch 215 665 = some (.invokevirtual 194, 668, 0) := by decide +kernel
theorem f215_668 : z_fetch 215 668 = some (.if_icmp .eq 0, 671, 907) := by decide +kernel
theorem f215_671 : z_fetch 215 671 = some (.iconst 0, 672, 0) := by decide +kernel
theorem f215_672 : z_fetch 215 672 = some (.ireturn, 673, 1) := by decide +kernel
theorem f215_673 : z_fetch 215 673 = some (.aload 1, 674, 0) := by decide +kernel
theorem f215_674 : z_fetch 215 674 = some (.aload 0, 675, 0) := by decide +kernel
theorem f215_675 : z_fetch 215 675 = some (.iload 3, 676, 0) := by decide +kernel
theorem f215_676 : z_fetch 215 676 = some (.iconst 1, 677, 0) := by decide +kernel
theorem f215_677 : z_fetch 215 677 = some (.iadd, 678, 0) := by decide +kernel
theorem f215_678 : z_fetch 215 678 = some (.iaload, 679, 0) := by decide +kernel
theorem f215_679 : z_fetch 215 679 = some (.aload 0, 680, 0) := by decide +kernel
theorem f215_680 : z_fetch 215 680 = some (.iload 3, 681, 0) := by decide +kernel
theorem f215_681 : z_fetch 215 681 = some (.iconst 2, 682, 0) := by decide +kernel
theorem f215_682 : z_fetch 215 682 = some (.iadd, 683, 0) := by decide +kernel
theorem f215_683 : z_fetch 215 683 = some (.iaload, 684, 0) := by decide +kernel
theorem f215_684 : z_fetch 215 684 = some (.invokevirtual 90, 687, 0) := by decide +kernel
theorem f215_687 : z_fetch 215 687 = some (.aload 2, 688, 0) := by decide +kernel
theorem f215_688 : z_fetch 215 688 = some (.aload 0, 689, 0) := by decide +kernel
theorem f215_689 : z_fetch 215 689 = some (.iload 3, 690, 0) := by decide +kernel
theorem f215_690 : z_fetch 215 690 = some (.iconst 1, 691, 0) := by decide +kernel
theorem f215_691 : z_fetch 215 691 = some (.iadd, 692, 0) := by decide +kernel
theorem f215_692 : z_fetch 215 692 = some (.iaload, 693, 0) := by decide +kernel
theorem f215_693 : z_fetch 215 693 = some (.aload 0, 694, 0) := by decide +kernel
theorem f215_694 : z_fetch 215 694 = some (.iload 3, 695, 0) := by decide +kernel
theorem f215_695 : z_fetch 215 695 = some (.iconst 2, 696, 0) := by decide +kernel
theorem f215_696 : z_fetch 215 696 = some (.iadd, 697, 0) := by decide +kernel
theorem f215_697 : z_fetch 215 697 = some (.iaload, 698, 0) := by decide +kernel
theorem f215_698 : z_fetch 215 698 = some (.invokevirtual 196, 701, 0) := by decide +kernel
theorem f215_701 : z_fetch 215 701 = some (.if_icmp .eq 0, 704, 907) := by decide +kernel
theorem f215_704 : z_fetch 215 704 = some (.iconst 0, 705, 0) := by decide +kernel
theorem f215_705 : z_fetch 215 705 = some (.ireturn, 706, 1) := by decide +kernel
theorem f215_706 : z_fetch 215 706 = some (.aload 1, 707, 0) := by decide +kernel
theorem f215_707 : z_fetch 215 707 = some (.aload 0, 708, 0) := by decide +kernel
theorem f215_708 : z_fetch 215 708 = some (.iload 3, 709, 0) := by decide +kernel
theorem f215_709 : z_fetch 215 709 = some (.iconst 1, 710, 0) := by decide +kernel
theorem f215_710 : z_fetch 215 710 = some (.iadd, 711, 0) := by decide +kernel
theorem f215_711 : z_fetch 215 711 = some (.iaload, 712, 0) := by decide +kernel
theorem f215_712 : z_fetch 215 712 = some (.aload 0, 713, 0) := by decide +kernel
theorem f215_713 : z_fetch 215 713 = some (.iload 3, 714, 0) := by decide +kernel
theorem f215_714 : z_fetch 215 714 = some (.iconst 2, 715, 0) := by decide +kernel
theorem f215_715 : z_fetch 215 715 = some (.iadd, 716, 0) := by decide +kernel
theorem f215_716 : z_fetch 215 716 = some (.iaload, 717, 0) := by decide +kernel
theorem f215_717 : z_fetch 215 717 = some (.invokevirtual 91, 720, 0) := by decide +kernel
theorem f215_720 : z_fetch 215 720 = some (.aload 2, 721, 0) := by decide +kernel
theorem f215_721 : z_fetch 215 721 = some (.aload 0, 722, 0) := by decide +kernel
theorem f215_722 : z_fetch 215 722 = some (.iload 3, 723, 0) := by decide +kernel
theorem f215_723 : z_fetch 215 723 = some (.iconst 1, 724, 0) := by decide +kernel
theorem f215_724 : z_fetch 215 724 = some (.iadd, 725, 0) := by decide +kernel
theorem f215_725 : z_fetch 215 725 = some (.iaload, 726, 0) := by decide +kernel
theorem f215_726 : z_fetch 215 726 = some (.aload 0, 727, 0) := by decide +kernel
theorem f215_727 : z_fetch 215 727 = some (.iload 3, 728, 0) := by decide +kernel
theorem f215_728 : z_fetch 215 728 = some (.iconst 2, 729, 0) := by decide +kernel
theorem f215_729 : z_fetch 215 729 = some (.iadd, 730, 0) := by decide +kernel
theorem f215_730 : z_fetch 215 730 = some (.iaload, 731, 0) := by decide +kernel
theorem f215_731 : z_fetch 215 731 = some (.invokevirtual 197, 734, 0) := by decide +kernel
theorem f215_734 : z_fetch 215 734 = some (.if_icmp .eq 0, 737, 907) := by decide +kernel
theorem f215_737 : z_fetch 215 737 = some (.iconst 0, 738, 0) := by decide +kernel
theorem f215_738 : z_fetch 215 738 = some (.ireturn, 739, 1) := by decide +kernel
theorem f215_739 : z_fetch 215 739 = some (.aload 1, 740, 0) := by decide +kernel
theorem f215_740 : z_fetch 215 740 = some (.aload 0, 741, 0) := by decide +kernel
theorem f215_741 : z_fetch 215 741 = some (.iload 3, 742, 0) := by decide +kernel
theorem f215_742 : z_fetch 215 742 = some (.iconst 1, 743, 0) := by decide +kernel
theorem f215_743 : z_fetch 215 743 = some (.iadd, 744, 0) := by decide +kernel
theorem f215_744 : z_fetch 215 744 = some (.iaload, 745, 0) := by decide +kernel
theorem f215_745 : z_fetch 215 745 = some (.invokevirtual 92, 748, 0) := by decide +kernel
theorem f215_748 : z_fetch 215 748 = some (.aload 2, 749, 0) := by decide +kernel
theorem f215_749 : z_fetch 215 749 = some (.aload 0, 750, 0) := by decide +kernel
theorem f215_750 : z_fetch 215 750 = some (.iload 3, 751, 0) := by decide +kernel
theorem f215_751 : z_fetch 215 751 = some (.iconst 1, 752, 0) := by decide +kernel
theorem f215_752 : z_fetch 215 752 = some (.iadd, 753, 0) := by decide +kernel
theorem f215_753 : z_fetch 215 753 = some (.iaload, 754, 0) := by decide +kernel
theorem f215_754 : z_fetch 215 754 = some (.invokevirtual 199, 757, 0) := by decide +kernel
theorem f215_757 : z_fetch 215 757 = some (.if_icmp .eq 0, 760, 907) := by decide +kernel
theorem f215_760 : z_fetch 215 760 = some (.iconst 0, 761, 0) := by decide +kernel
theorem f215_761 : z_fetch 215 761 = some (.ireturn, 762, 1) := by decide +kernel
theorem f215_762 : z_fetch 215 762 = some (.aload 1, 763, 0) := by decide +kernel
theorem f215_763 : z_fetch 215 763 = some (.aload 0, 764, 0) := by decide +kernel
theorem f215_764 : z_fetch 215 764 = some (.iload 3, 765, 0) := by decide +kernel
theorem f215_765 : z_fetch 215 765 = some (.iconst 1, 766, 0) := by decide +kernel
theorem f215_766 : z_fetch 215 766 = some (.iadd, 767, 0) := by decide +kernel
theorem f215_767 : z_fetch 215 767 = some (.iaload, 768, 0) := by decide +kernel
theorem f215_768 : z_fetch 215 768 = some (.invokevirtual 93, 771, 0) := by decide +kernel
theorem f215_771 : z_fetch 215 771 = some (.aload 2, 772, 0) := by decide +kernel
theorem f215_772 : z_fetch 215 772 = some (.aload 0, 773, 0) := by decide +kernel
theorem f215_773 : z_fetch 215 773 = some (.iload 3, 774, 0) := by decide +kernel
theorem f215_774 : z_fetch 215 774 = some (.iconst 1, 775, 0) := by decide +kernel
theorem f215_775 : z_fetch 215 775 = some (.iadd, 776, 0) := by decide +kernel
theorem f215_776 : z_fetch 215 776 = some (.iaload, 777, 0) := by decide +kernel
theorem f215_777 : z_fetch 215 777 = some (.invokevirtual 200, 780, 0) := by decide +kernel
theorem f215_780 : z_fetch 215 780 = some (.if_icmp .eq 0, 783, 907) := by decide +kernel
theorem f215_783 : z_fetch 215 783 = some (.iconst 0, 784, 0) := by decide +kernel
theorem f215_784 : z_fetch 215 784 = some (.ireturn, 785, 1) := by decide +kernel
theorem f215_785 : z_fetch 215 785 = some (.aload 1, 786, 0) := by decide +kernel
theorem f215_786 : z_fetch 215 786 = some (.aload 0, 787, 0) := by decide +kernel
theorem f215_787 : z_fetch 215 787 = some (.iload 3, 788, 0) := by decide +kernel
theorem f215_788 : z_fetch 215 788 = some (.iconst 1, 789, 0) := by decide +kernel
theorem f215_789 : z_fetch 215 789 = some (.iadd, 790, 0) := by decide +kernel
theorem f215_790 : z_fetch 215 790 = some (.iaload, 791, 0) := by decide +kernel
theorem f215_791 : z_fetch 215 791 = some (.aload 0, 792, 0) := by decide +kernel
theorem f215_792 : z_fetch 215 792 = some (.iload 3, 793, 0) := by decide +kernel
theorem f215_793 : z_fetch 215 793 = some (.iconst 2, 794, 0) := by decide +kernel
theorem f215_794 : z_fetch 215 794 = some (.iadd, 795, 0) := by decide +kernel
theorem f215_795 : z_fetch 215 795 = some (.iaload, 796, 0) := by decide +kernel
theorem f215_796 : z_fetch 215 796 = some (.aload 0, 797, 0) := by decide +kernel
theorem f215_797 : z_fetch 215 797 = some (.iload 3, 798, 0) := by decide +kernel
theorem f215_798 : z_fetch 215 798 = some (.iconst 3, 799, 0) := by decide +kernel
theorem f215_799 : z_fetch 215 799 = some (.iadd, 800, 0) := by decide +kernel
theorem f215_800 : z_fetch 215 800 = some (.iaload, 801, 0) := by decide +kernel
theorem f215_801 : z_fetch 215 801 = some (.aload 0, 802, 0) := by decide +kernel
theorem f215_802 : z_fetch 215 802 = some (.iload 3, 803, 0) := by decide +kernel
theorem f215_803 : z_fetch 215 803 = some (.iconst 4, 804, 0) := by decide +kernel
theorem f215_804 : z_fetch 215 804 = some (.iadd, 805, 0) := by decide +kernel
theorem f215_805 : z_fetch 215 805 = some (.iaload, 806, 0) := by decide +kernel
theorem f215_806 : z_fetch 215 806 = some (.invokevirtual 94, 809, 0) := by decide +kernel
theorem f215_809 : z_fetch 215 809 = some (.aload 2, 810, 0) := by decide +kernel
theorem f215_810 : z_fetch 215 810 = some (.aload 0, 811, 0) := by decide +kernel
theorem f215_811 : z_fetch 215 811 = some (.iload 3, 812, 0) := by decide +kernel
theorem f215_812 : z_fetch 215 812 = some (.iconst 1, 813, 0) := by decide +kernel
theorem f215_813 : z_fetch 215 813 = some (.iadd, 814, 0) := by decide +kernel
theorem f215_814 : z_fetch 215 814 = some (.iaload, 815, 0) := by decide +kernel
theorem f215_815 : z_fetch 215 815 = some (.aload 0, 816, 0) := by decide +kernel
theorem f215_816 : z_fetch 215 816 = some (.iload 3, 817, 0) := by decide +kernel
theorem f215_817 : z_fetch 215 817 = some (.iconst 2, 818, 0) := by decide +kernel
theorem f215_818 : z_fetch 215 818 = some (.iadd, 819, 0) := by decide +kernel
theorem f215_819 : z_fetch 215 819 = some (.iaload, 820, 0) := by decide +kernel
theorem f215_820 : z_fetch 215 820 = some (.aload 0, 821, 0) := by decide +kernel
theorem f215_821 : z_fetch 215 821 = some (.iload 3, 822, 0) := by decide +kernel
theorem f215_822 : z_fetch 215 822 = some (.iconst 3, 823, 0) := by decide +kernel
theorem f215_823 : z_fetch 215 823 = some (.iadd, 824, 0) := by decide +kernel
theorem f215_824 : z_fetch 215 824 = some (.iaload, 825, 0) := by decide +kernel
theorem f215_825 : z_fetch 215 825 = some (.aload 0, 826, 0) := by decide +kernel
theorem f215_826 : z_fetch 215 826 = some (.iload 3, 827, 0) := by decide +kernel
theorem f215_827 : z_fetch 215 827 = some (.iconst 4, 828, 0) := by decide +kernel
theorem f215_828 : z_fetch 215 828 = some (.iadd, 829, 0) := by decide +kernel
theorem f215_829 : z_fetch 215 829 = some (.iaload, 830, 0) := by decide +kernel
theorem f215_830 : z_fetch 215 830 = some (.invokevirtual 201, 833, 0) := by decide +kernel
theorem f215_833 : z_fetch 215 833 = some (.if_icmp .eq 0, 836, 907) := by decide +kernel
theorem f215_836 : z_fetch 215 836 = some (.iconst 0, 837, 0) := by decide +kernel
theorem f215_837 : z_fetch 215 837 = some (.ireturn, 838, 1) := by decide +kernel
theorem f215_838 : z_fetch 215 838 = some (.aload 1, 839, 0) := by decide +kernel
theorem f215_839 : z_fetch 215 839 = some (.aload 0, 840, 0) := by decide +kernel
theorem f215_840 : z_fetch 215 840 = some (.iload 3, 841, 0) := by decide +kernel
theorem f215_841 : z_fetch 215 841 = some (.iconst 1, 842, 0) := by decide +kernel
theorem f215_842 : z_fetch 215 842 = some (.iadd, 843, 0) := by decide +kernel
theorem f215_843 : z_fetch 215 843 = some (.iaload, 844, 0) := by decide +kernel
theorem f215_844 : z_fetch 215 844 = some (.invokevirtual 95, 847, 0) := by decide +kernel
theorem f215_847 : z_fetch 215 847 = some (.aload 2, 848, 0) := by decide +kernel
theorem f215_848 : z_fetch 215 848 = some (.aload 0, 849, 0) := by decide +kernel
theorem f215_849 : z_fetch 215 849 = some (.iload 3, 850, 0) := by decide +kernel
theorem f215_850 : z_fetch 215 850 = some (.iconst 1, 851, 0) := by decide +kernel
theorem f215_851 : z_fetch 215 851 = some (.iadd, 852, 0) := by decide +kernel
theorem f215_852 : z_fetch 215 852 = some (.iaload, 853, 0) := by decide +kernel
theorem f215_853 : z_fetch 215 853 = some (.invokevirtual 202, 856, 0) := by decide +kernel
theorem f215_856 : z_fetch 215 856 = some (.if_icmp .eq 0, 859, 907) := by decide +kernel
theorem f215_859 : z_fetch 215 859 = some (.iconst 0, 860, 0) := by decide +kernel
theorem f215_860 : z_fetch 215 860 = some (.ireturn, 861, 1) := by decide +kernel
theorem f215_861 : z_fetch 215 861 = some (.aload 1, 862, 0) := by decide +kernel
theorem f215_862 : z_fetch 215 862 = some (.aload 0, 863, 0) := by decide +kernel
theorem f215_863 : z_fetch 215 863 = some (.iload 3, 864, 0) := by decide +kernel
theorem f215_864 : z_fetch 215 864 = some (.iconst 1, 865, 0) := by decide +kernel
theorem f215_865 : z_fetch 215 865 = some (.iadd, 866, 0) := by decide +kernel
theorem f215_866 : z_fetch 215 866 = some (.iaload, 867, 0) := by decide +kernel
theorem f215_867 : z_fetch 215 867 = some (.invokevirtual 96, 870, 0) := by decide +kernel
theorem f215_870 : z_fetch 215 870 = some (.aload 2, 871, 0) := by decide +kernel
theorem f215_871 : z_fetch 215 871 = some (.aload 0, 872, 0) := by decide +kernel
theorem f215_872 : z_fetch 215 872 = some (.iload 3, 873, 0) := by decide +kernel
theorem f215_873 : z_fetch 215 873 = some (.iconst 1, 874, 0) := by decide +kernel
theorem f215_874 : z_fetch 215 874 = some (.iadd, 875, 0) := by decide +kernel
theorem f215_875 : z_fetch 215 875 = some (.iaload, 876, 0) := by decide +kernel
theorem f215_876 : z_fetch 215 876 = some (.invokevirtual 203, 879, 0) := by decide +kernel
theorem f215_879 : z_fetch 215 879 = some (.if_icmp .eq 0, 882, 907) := by decide +kernel
theorem f215_882 : z_fetch 215 882 = some (.iconst 0, 883, 0) := by decide +kernel
theorem f215_883 : z_fetch 215 883 = some (.ireturn, 884, 1) := by decide +kernel
theorem f215_884 : z_fetch 215 884 = some (.aload 1, 885, 0) := by decide +kernel
theorem f215_885 : z_fetch 215 885 = some (.aload 0, 886, 0) := by decide +kernel
theorem f215_886 : z_fetch 215 886 = some (.iload 3, 887, 0) := by decide +kernel
theorem f215_887 : z_fetch 215 887 = some (.iconst 1, 888, 0) := by decide +kernel
theorem f215_888 : z_fetch 215 888 = some (.iadd, 889, 0) := by decide +kernel
theorem f215_889 : z_fetch 215 889 = some (.iaload, 890, 0) := by decide +kernel
theorem f215_890 : z_fetch 215 890 = some (.invokevirtual 97, 893, 0) := by decide +kernel
theorem f215_893 : z_fetch 215 893 = some (.aload 2, 894, 0) := by decide +kernel
theorem f215_894 : z_fetch 215 894 = some (.aload 0, 895, 0) := by decide +kernel
theorem f215_895 : z_fetch 215 895 = some (.iload 3, 896, 0) := by decide +kernel
theorem f215_896 : z_fetch 215 896 = some (.iconst 1, 897, 0) := by decide +kernel
theorem f215_897 : z_fetch 215 897 = some (.iadd, 898, 0) := by decide +kernel
theorem f215_898 : z_fetch 215 898 = some (.iaload, 899, 0) := by decide +kernel
theorem f215_899 : z_fetch 215 899 = some (.invokevirtual 204, 902, 0) := by decide +kernel
theorem f215_902 : z_fetch 215 902 = some (.if_icmp .eq 0, 905, 907) := by decide +kernel
theorem f215_905 : z_fetch 215 905 = some (.iconst 0, 906, 0) := by decide +kernel
theorem f215_906 : z_fetch 215 906 = some (.ireturn, 907, 1) := by decide +kernel
theorem f215_907 : z_fetch 215 907 = some (.iinc 3 6, 910, 0) := by decide +kernel
theorem f215_910 : z_fetch 215 910 = some (.goto 0, 913, 18) := by decide +kernel
theorem f215_913 : z_fetch 215 913 = some (.iconst 1, 914, 0) := by decide +kernel
theorem f215_914 : z_fetch 215 914 = some (.ireturn, 915, 1) := by decide +kernel
