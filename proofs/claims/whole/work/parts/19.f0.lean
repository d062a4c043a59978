theorem f0_0 : z_fetch 0 0 = some (.aload 0, 1, 0) := by decide +kernel
theorem f0_1 : z_fetch 0 1 = some (.monitorenter, 4, 0) := by decide +kernel
theorem f0_4 : z_fetch 0 4 = some (.aload 0, 5, 0) := by decide +kernel
theorem f0_5 : z_fetch 0 5 = some (.iconst 10, 7, 0) := by decide +kernel
theorem f0_7 : z_fetch 0 7 = some (.newarray .long, 9, 0) := by decide +kernel
theorem f0_9 : z_fetch 0 9 = some (.putstatic 0, 12, 0) := by decide +kernel
theorem f0_12 : z_fetch 0 12 = some (.aload 0, 13, 0) := by decide +kernel
theorem f0_13 : z_fetch 0 13 = some (.iconst 64, 15, 0) := by decide +kernel
theorem f0_15 : z_fetch 0 15 = some (.newarray .long, 17, 0) := by decide +kernel
theorem f0_17 : z_fetch 0 17 = some (.putstatic 0, 20, 1) := by decide +kernel
theorem f0_20 : z_fetch 0 20 = some (.return_, 21, 0) := by decide +kernel
theorem f1_0 : z_fetch 1 0 = some (.aload 1, 1, 0) := by decide +kernel
theorem f1_1 : z_fetch 1 1 = some (.instanceof 6, 4, 5) := by decide +kernel
theorem f1_4 : z_fetch 1 4 = some (.iload 2, 5, 0) := by decide +kernel
theorem f1_5 : z_fetch 1 5 = some (.aaload, 6, 0) := by decide +kernel
theorem f1_6 : z_fetch 1 6 = some (.astore 4, 8, 0) := by decide +kernel
theorem f1_8 : z_fetch 1 8 = some (.aload 0, 9, 0) := by decide +kernel
theorem f1_9 : z_fetch 1 9 = some (.aload 4, 11, 0) := by decide +kernel
theorem f1_11 : z_fetch 1 11 = some (.iload 2, 12, 0) := by decide +kernel
theorem f1_12 : z_fetch 1 12 = some (.aload 1, 13, 0) := by decide +kernel
theorem f1_13 : z_fetch 1 13 = some (.getfield 6, 16, 1) := by decide +kernel
theorem f1_16 : z_fetch 1 16 = some (.invokevirtual 3, 19, 0) := by decide +kernel
theorem f1_19 : z_fetch 1 19 = some (.aload 0, 20, 0) := by decide +kernel
theorem f1_20 : z_fetch 1 20 = some (.aload 4, 22, 0) := by decide +kernel
theorem f1_22 : z_fetch 1 22 = some (.getfield 1, 25, 1) := by decide +kernel
theorem f1_25 : z_fetch 1 25 = some (.iload 3, 26, 0) := by decide +kernel
theorem f1_26 : z_fetch 1 26 = some (.aload 1, 27, 0) := by decide +kernel
theorem f1_27 : z_fetch 1 27 = some (.aload 4, 29, 0) := by decide +kernel
theorem f1_29 : z_fetch 1 29 = some (.getfield 1, 32, 1) := by decide +kernel
theorem f1_32 : z_fetch 1 32 = some (.invokevirtual 40, 35, 0) := by decide +kernel
theorem f1_35 : z_fetch 1 35 = some (.invokevirtual 4, 38, 0) := by decide +kernel
theorem f1_38 : z_fetch 1 38 = some (.aload 0, 39, 0) := by decide +kernel
theorem f1_39 : z_fetch 1 39 = some (.aload 4, 41, 0) := by decide +kernel
theorem f1_41 : z_fetch 1 41 = some (.getfield 1, 44, 3) := by decide +kernel
theorem f1_44 : z_fetch 1 44 = some (.aload 4, 46, 0) := by decide +kernel
theorem f1_46 : z_fetch 1 46 = some (.getfield 1, 49, 3) := by decide +kernel
theorem f1_49 : z_fetch 1 49 = some (.iload 3, 50, 0) := by decide +kernel
theorem f1_50 : z_fetch 1 50 = some (.invokestatic 98, 53, 0) := by decide +kernel
theorem f1_53 : z_fetch 1 53 = some (.ifCond .ne 0, 56, 60) := by decide +kernel
theorem f1_56 : z_fetch 1 56 = some (.iconst 1, 57, 0) := by decide +kernel
theorem f1_57 : z_fetch 1 57 = some (.goto 0, 60, 61) := by decide +kernel
theorem f1_60 : z_fetch 1 60 = some (.iconst 0, 61, 0) := by decide +kernel
theorem f1_61 : z_fetch 1 61 = some (.invokevirtual 5, 64, 0) := by decide +kernel
theorem f1_64 : z_fetch 1 64 = some (.return_, 65, 0) := by decide +kernel
theorem f2_0 : z_fetch 2 0 = some (.aload 1, 1, 0) := by decide +kernel
theorem f2_1 : z_fetch 2 1 = some (.instanceof 6, 4, 5) := by decide +kernel
theorem f2_4 : z_fetch 2 4 = some (.iload 2, 5, 0) := by decide +kernel
theorem f2_5 : z_fetch 2 5 = some (.aaload, 6, 0) := by decide +kernel
theorem f2_6 : z_fetch 2 6 = some (.astore 3, 7, 0) := by decide +kernel
theorem f2_7 : z_fetch 2 7 = some (.aload 0, 8, 0) := by decide +kernel
theorem f2_8 : z_fetch 2 8 = some (.aload 3, 9, 0) := by decide +kernel
theorem f2_9 : z_fetch 2 9 = some (.iload 2, 10, 0) := by decide +kernel
theorem f2_10 : z_fetch 2 10 = some (.aload 1, 11, 0) := by decide +kernel
theorem f2_11 : z_fetch 2 11 = some (.getfield 6, 14, 1) := by decide +kernel
theorem f2_14 : z_fetch 2 14 = some (.invokevirtual 3, 17, 0) := by decide +kernel
theorem f2_17 : z_fetch 2 17 = some (.aload 0, 18, 0) := by decide +kernel
theorem f2_18 : z_fetch 2 18 = some (.aload 3, 19, 0) := by decide +kernel
theorem f2_19 : z_fetch 2 19 = some (.getfield 1, 22, 1) := by decide +kernel
theorem f2_22 : z_fetch 2 22 = some (.aload 3, 23, 0) := by decide +kernel
theorem f2_23 : z_fetch 2 23 = some (.getfield 1, 26, 1) := by decide +kernel
theorem f2_26 : z_fetch 2 26 = some (.aload 1, 27, 0) := by decide +kernel
theorem f2_27 : z_fetch 2 27 = some (.aload 3, 28, 0) := by decide +kernel
theorem f2_28 : z_fetch 2 28 = some (.getfield 1, 31, 1) := by decide +kernel
theorem f2_31 : z_fetch 2 31 = some (.invokevirtual 40, 34, 0) := by decide +kernel
theorem f2_34 : z_fetch 2 34 = some (.invokevirtual 4, 37, 0) := by decide +kernel
theorem f2_37 : z_fetch 2 37 = some (.aload 0, 38, 0) := by decide +kernel
theorem f2_38 : z_fetch 2 38 = some (.aload 3, 39, 0) := by decide +kernel
theorem f2_39 : z_fetch 2 39 = some (.getfield 1, 42, 3) := by decide +kernel
theorem f2_42 : z_fetch 2 42 = some (.aload 3, 43, 0) := by decide +kernel
theorem f2_43 : z_fetch 2 43 = some (.getfield 1, 46, 4) := by decide +kernel
theorem f2_46 : z_fetch 2 46 = some (.invokevirtual 5, 49, 0) := by decide +kernel
theorem f2_49 : z_fetch 2 49 = some (.return_, 50, 0) := by decide +kernel
theorem f3_0 : z_fetch 3 0 = some (.aload 0, 1, 0) := by decide +kernel
theorem f3_1 : z_fetch 3 1 = some (.instanceof 0, 4, 0) := by decide +kernel
theorem f3_4 : z_fetch 3 4 = some (.iconst 1, 5, 0) := by decide +kernel
theorem f3_5 : z_fetch 3 5 = some (.iload 2, 6, 0) := by decide +kernel
theorem f3_6 : z_fetch 3 6 = some (.i2l, 7, 0) := by decide +kernel
theorem f3_7 : z_fetch 3 7 = some (.lastore, 8, 0) := by decide +kernel
theorem f3_8 : z_fetch 3 8 = some (.aload 0, 9, 0) := by decide +kernel
theorem f3_9 : z_fetch 3 9 = some (.instanceof 0, 12, 0) := by decide +kernel
theorem f3_12 : z_fetch 3 12 = some (.iconst 2, 13, 0) := by decide +kernel
theorem f3_13 : z_fetch 3 13 = some (.aload 1, 14, 0) := by decide +kernel
theorem f3_14 : z_fetch 3 14 = some (.getfield 1, 17, 0) := by decide +kernel
theorem f3_17 : z_fetch 3 17 = some (.i2l, 18, 0) := by decide +kernel
theorem f3_18 : z_fetch 3 18 = some (.lastore, 19, 0) := by decide +kernel
theorem f3_19 : z_fetch 3 19 = some (.aload 0, 20, 0) := by decide +kernel
theorem f3_20 : z_fetch 3 20 = some (.instanceof 0, 23, 0) := by decide +kernel
theorem f3_23 : z_fetch 3 23 = some (.iconst 3, 24, 0) := by decide +kernel
theorem f3_24 : z_fetch 3 24 = some (.iload 3, 25, 0) := by decide +kernel
theorem f3_25 : z_fetch 3 25 = some (.aload 1, 26, 0) := by decide +kernel
theorem f3_26 : z_fetch 3 26 = some (.getfield 1, 29, 2) := by decide +kernel
theorem f3_29 : z_fetch 3 29 = some (.isub, 30, 0) := by decide +kernel
theorem f3_30 : z_fetch 3 30 = some (.i2l, 31, 0) := by decide +kernel
theorem f3_31 : z_fetch 3 31 = some (.lastore, 32, 0) := by decide +kernel
theorem f3_32 : z_fetch 3 32 = some (.aload 0, 33, 0) := by decide +kernel
theorem f3_33 : z_fetch 3 33 = some (.instanceof 0, 36, 0) := by decide +kernel
theorem f3_36 : z_fetch 3 36 = some (.iconst 9, 38, 0) := by decide +kernel
theorem f3_38 : z_fetch 3 38 = some (.iload 3, 39, 0) := by decide +kernel
theorem f3_39 : z_fetch 3 39 = some (.i2l, 40, 0) := by decide +kernel
theorem f3_40 : z_fetch 3 40 = some (.lastore, 41, 0) := by decide +kernel
theorem f3_41 : z_fetch 3 41 = some (.return_, 42, 0) := by decide +kernel
theorem f4_0 : z_fetch 4 0 = some (.aload 0, 1, 0) := by decide +kernel
theorem f4_1 : z_fetch 4 1 = some (.instanceof 0, 4, 0) := by decide +kernel
theorem f4_4 : z_fetch 4 4 = some (.iconst 7, 6, 0) := by decide +kernel
theorem f4_6 : z_fetch 4 6 = some (.iload 1, 7, 0) := by decide +kernel
theorem f4_7 : z_fetch 4 7 = some (.i2l, 8, 0) := by decide +kernel
theorem f4_8 : z_fetch 4 8 = some (.lastore, 9, 0) := by decide +kernel
theorem f4_9 : z_fetch 4 9 = some (.aload 0, 10, 0) := by decide +kernel
theorem f4_10 : z_fetch 4 10 = some (.instanceof 0, 13, 0) := by decide +kernel
theorem f4_13 : z_fetch 4 13 = some (.iconst 8, 15, 0) := by decide +kernel
theorem f4_15 : z_fetch 4 15 = some (.iload 2, 16, 0) := by decide +kernel
theorem f4_16 : z_fetch 4 16 = some (.i2l, 17, 0) := by decide +kernel
theorem f4_17 : z_fetch 4 17 = some (.lastore, 18, 0) := by decide +kernel
theorem f4_18 : z_fetch 4 18 = some (.aload 0, 19, 0) := by decide +kernel
theorem f4_19 : z_fetch 4 19 = some (.instanceof 0, 22, 0) := by decide +kernel
theorem f4_22 : z_fetch 4 22 = some (.iconst 6, 24, 0) := by decide +kernel
theorem f4_24 : z_fetch 4 24 = some (.iload 3, 25, 0) := by decide +kernel
theorem f4_25 : z_fetch 4 25 = some (.i2l, 26, 0) := by decide +kernel
theorem f4_26 : z_fetch 4 26 = some (.lastore, 27, 0) := by decide +kernel
theorem f4_27 : z_fetch 4 27 = some (.return_, 28, 0) := by decide +kernel
theorem f5_0 : z_fetch 5 0 = some (.aload 0, 1, 0) := by decide +kernel
theorem f5_1 : z_fetch 5 1 = some (.instanceof 0, 4, 0) := by decide +kernel
theorem f5_4 : z_fetch 5 4 = some (.iconst 4, 5, 0) := by decide +kernel
theorem f5_5 : z_fetch 5 5 = some (.iload 1, 6, 0) := by decide +kernel
theorem f5_6 : z_fetch 5 6 = some (.invokestatic 205, 9, 0) := by decide +kernel
theorem f5_9 : z_fetch 5 9 = some (.i2l, 10, 0) := by decide +kernel
theorem f5_10 : z_fetch 5 10 = some (.lastore, 11, 0) := by decide +kernel
theorem f5_11 : z_fetch 5 11 = some (.aload 0, 12, 0) := by decide +kernel
theorem f5_12 : z_fetch 5 12 = some (.instanceof 0, 15, 0) := by decide +kernel
theorem f5_15 : z_fetch 5 15 = some (.iconst 5, 16, 0) := by decide +kernel
theorem f5_16 : z_fetch 5 16 = some (.iload 2, 17, 0) := by decide +kernel
theorem f5_17 : z_fetch 5 17 = some (.ifCond .eq 0, 20, 24) := by decide +kernel
theorem f5_20 : z_fetch 5 20 = some (.goto_w 1, 21, 0) := by decide +kernel
theorem f5_21 : z_fetch 5 21 = some (.goto 0, 24, 25) := by decide +kernel
theorem f5_24 : z_fetch 5 24 = some (.goto_w 0, 25, 0) := by decide +kernel
theorem f5_25 : z_fetch 5 25 = some (.lastore, 26, 0) := by decide +kernel
theorem f5_26 : z_fetch 5 26 = some (.return_, 27, 0) := by decide +kernel
theorem f6_0 : z_fetch 6 0 = some (.iconst 0, 1, 0) := by decide +kernel
theorem f6_1 : z_fetch 6 1 = some (.istore 4, 3, 0) := by decide +kernel
theorem f6_3 : z_fetch 6 3 = some (.iload 2, 4, 0) := by decide +kernel
theorem f6_4 : z_fetch 6 4 = some (.istore 5, 6, 0) := by decide +kernel
theorem f6_6 : z_fetch 6 6 = some (.iload 5, 8, 0) := by decide +kernel
theorem f6_8 : z_fetch 6 8 = some (.iload 3, 9, 0) := by decide +kernel
theorem f6_9 : z_fetch 6 9 = some (.if_icmp .ge 0, 12, 151) := by decide +kernel
theorem f6_12 : z_fetch 6 12 = some (.iload 5, 14, 0) := by decide +kernel
theorem f6_14 : z_fetch 6 14 = some (.aload 1, 15, 0) := by decide +kernel
theorem f6_15 : z_fetch 6 15 = some (.arraylength, 16, 0) := by decide +kernel
theorem f6_16 : z_fetch 6 16 = some (.if_icmp .ge 0, 19, 151) := by decide +kernel
theorem f6_19 : z_fetch 6 19 = some (.aload 1, 20, 0) := by decide +kernel
theorem f6_20 : z_fetch 6 20 = some (.iload 5, 22, 0) := by decide +kernel
theorem f6_22 : z_fetch 6 22 = some (.iaload, 23, 0) := by decide +kernel
theorem f6_23 : z_fetch 6 23 = some (.istore 6, 25, 0) := by decide +kernel
theorem f6_25 : z_fetch 6 25 = some (.iload 6, 27, 0) := by decide +kernel
theorem f6_27 : z_fetch 6 27 = some (.iconst (-9), 29, 0) := by decide +kernel
theorem f6_29 : z_fetch 6 29 = some (.if_icmp .lt 0, 32, 71) := by decide +kernel
theorem f6_32 : z_fetch 6 32 = some (.iload 4, 34, 0) := by decide +kernel
theorem f6_34 : z_fetch 6 34 = some (.iconst 64, 36, 0) := by decide +kernel
theorem f6_36 : z_fetch 6 36 = some (.if_icmp .ge 0, 39, 145) := by decide +kernel
theorem f6_39 : z_fetch 6 39 = some (.aload 0, 40, 0) := by decide +kernel
theorem f6_40 : z_fetch 6 40 = some (.instanceof 0, 43, 1) := by decide +kernel
theorem f6_43 : z_fetch 6 43 = some (.iload 4, 45, 0) := by decide +kernel
theorem f6_45 : z_fetch 6 45 = some (.iload 6, 47, 0) := by decide +kernel
theorem f6_47 : z_fetch 6 47 = some (.ifCond .lt 0, 50, 56) := by decide +kernel
theorem f6_50 : z_fetch 6 50 = some (.iload 6, 52, 0) := by decide +kernel
theorem f6_52 : z_fetch 6 52 = some (.i2l, 53, 0) := by decide +kernel
theorem f6_53 : z_fetch 6 53 = some (.goto 0, 56, 64) := by decide +kernel
theorem f6_56 : z_fetch 6 56 = some (.aload 0, 57, 0) := by decide +kernel
theorem f6_57 : z_fetch 6 57 = some (.instanceof 0, 60, 0) := by decide +kernel
theorem f6_60 : z_fetch 6 60 = some (.iload 6, 62, 0) := by decide +kernel
theorem f6_62 : z_fetch 6 62 = some (.ineg, 63, 0) := by decide +kernel
theorem f6_63 : z_fetch 6 63 = some (.laload, 64, 0) := by decide +kernel
theorem f6_64 : z_fetch 6 64 = some (.lastore, 65, 0) := by decide +kernel
theorem f6_65 : z_fetch 6 65 = some (.iinc 4 1, 68, 0) := by decide +kernel
theorem f6_68 : z_fetch 6 68 = some (.goto 0, 71, 145) := by decide +kernel
theorem f6_71 : z_fetch 6 71 = some (.iload 6, 73, 0) := by decide +kernel
theorem f6_73 : z_fetch 6 73 = some (.iconst (-21), 75, 0) := by decide +kernel
theorem f6_75 : z_fetch 6 75 = some (.if_icmp .ne 0, 78, 106) := by decide +kernel
theorem f6_78 : z_fetch 6 78 = some (.iload 4, 80, 0) := by decide +kernel
theorem f6_80 : z_fetch 6 80 = some (.ifCond .le 0, 83, 145) := by decide +kernel
theorem f6_83 : z_fetch 6 83 = some (.aload 0, 84, 0) := by decide +kernel
theorem f6_84 : z_fetch 6 84 = some (.instanceof 0, 87, 1) := by decide +kernel
theorem f6_87 : z_fetch 6 87 = some (.iload 4, 89, 0) := by decide +kernel
theorem f6_89 : z_fetch 6 89 = some (.iconst 1, 90, 0) := by decide +kernel
theorem f6_90 : z_fetch 6 90 = some (.isub, 91, 0) := by decide +kernel
theorem f6_91 : z_fetch 6 91 = some (.goto_w 1, 92, 0) := by decide +kernel
theorem f6_92 : z_fetch 6 92 = some (.aload 0, 93, 0) := by decide +kernel
theorem f6_93 : z_fetch 6 93 = some (.instanceof 0, 96, 1) := by decide +kernel
theorem f6_96 : z_fetch 6 96 = some (.iload 4, 98, 0) := by decide +kernel
theorem f6_98 : z_fetch 6 98 = some (.iconst 1, 99, 0) := by decide +kernel
theorem f6_99 : z_fetch 6 99 = some (.isub, 100, 0) := by decide +kernel
theorem f6_100 : z_fetch 6 100 = some (.laload, 101, 0) := by decide +kernel
theorem f6_101 : z_fetch 6 101 = some (.lsub, 102, 0) := by decide +kernel
theorem f6_102 : z_fetch 6 102 = some (.lastore, 103, 0) := by decide +kernel
theorem f6_103 : z_fetch 6 103 = some (.goto 0, 106, 145) := by decide +kernel
theorem f6_106 : z_fetch 6 106 = some (.iload 4, 108, 0) := by decide +kernel
theorem f6_108 : z_fetch 6 108 = some (.iconst 1, 109, 0) := by decide +kernel
theorem f6_109 : z_fetch 6 109 = some (.if_icmp .le 0, 112, 145) := by decide +kernel
theorem f6_112 : z_fetch 6 112 = some (.iinc 4 (-1), 115, 0) := by decide +kernel
theorem f6_115 : z_fetch 6 115 = some (.aload 0, 116, 0) := by decide +kernel
theorem f6_116 : z_fetch 6 116 = some (.instanceof 0, 119, 1) := by decide +kernel
theorem f6_119 : z_fetch 6 119 = some (.iload 4, 121, 0) := by decide +kernel
theorem f6_121 : z_fetch 6 121 = some (.iconst 1, 122, 0) := by decide +kernel
theorem f6_122 : z_fetch 6 122 = some (.isub, 123, 0) := by decide +kernel
theorem f6_123 : z_fetch 6 123 = some (.iload 6, 125, 0) := by decide +kernel
theorem f6_125 : z_fetch 6 125 = some (.aload 0, 126, 0) := by decide +kernel
theorem f6_126 : z_fetch 6 126 = some (.instanceof 0, 129, 1) := by decide +kernel
theorem f6_129 : z_fetch 6 129 = some (.iload 4, 131, 0) := by decide +kernel
theorem f6_131 : z_fetch 6 131 = some (.iconst 1, 132, 0) := by decide +kernel
theorem f6_132 : z_fetch 6 132 = some (.isub, 133, 0) := by decide +kernel
theorem f6_133 : z_fetch 6 133 = some (.laload, 134, 0) := by decide +kernel
theorem f6_134 : z_fetch 6 134 = some (.aload 0, 135, 0) := by decide +kernel
theorem f6_135 : z_fetch 6 135 = some (.instanceof 0, 138, 1) := by decide +kernel
theorem f6_138 : z_fetch 6 138 = some (.iload 4, 140, 0) := by decide +kernel
theorem f6_140 : z_fetch 6 140 = some (.laload, 141, 0) := by decide +kernel
theorem f6_141 : z_fetch 6 141 = some (.invokestatic 7, 144, 0) := by decide +kernel
theorem f6_144 : z_fetch 6 144 = some (.lastore, 145, 0) := by decide +kernel
theorem f6_145 : z_fetch 6 145 = some (.iinc 5 1, 148, 0) := by decide +kernel
theorem f6_148 : z_fetch 6 148 = some (.goto 0, 151, 6) := by decide +kernel
theorem f6_151 : z_fetch 6 151 = some (.iload 4, 153, 0) := by decide +kernel
theorem f6_153 : z_fetch 6 153 = some (.ifCond .le 0, 156, 171) := by decide +kernel
theorem f6_156 : z_fetch 6 156 = some (.aload 0, 157, 0) := by decide +kernel
theorem f6_157 : z_fetch 6 157 = some (.instanceof 0, 160, 1) := by decide +kernel
theorem f6_160 : z_fetch 6 160 = some (.iconst 0, 161, 0) := by decide +kernel
theorem f6_161 : z_fetch 6 161 = some (.laload, 162, 0) := by decide +kernel
theorem f6_162 : z_fetch 6 162 = some (.goto_w 0, 163, 0) := by decide +kernel
theorem f6_163 : z_fetch 6 163 = some (.lcmp, 164, 0) := by decide +kernel
theorem f6_164 : z_fetch 6 164 = some (.ifCond .eq 0, 167, 171) := by decide +kernel
theorem f6_167 : z_fetch 6 167 = some (.iconst 1, 168, 0) := by decide +kernel
theorem f6_168 : z_fetch 6 168 = some (.goto 0, 171, 172) := by decide +kernel
theorem f6_171 : z_fetch 6 171 = some (.iconst 0, 172, 0) := by decide +kernel
theorem f6_172 : z_fetch 6 172 = some (.ireturn, 173, 1) := by decide +kernel
theorem f7_0 : z_fetch 7 0 = some (.iload 0, 1, 0) := by decide +kernel
theorem f7_1 : z_fetch 7 1 = some (.tableswitch 0 (-19) (-10) #[142, 130, 118, 106, 94, 82, 68, 64, 60, 56], 56, 146) := by decide +kernel
theorem f7_56 : z_fetch 7 56 = some (.lload 1, 57, 0) := by decide +kernel
theorem f7_57 : z_fetch 7 57 = some (.lload 3, 58, 0) := by decide +kernel
theorem f7_58 : z_fetch 7 58 = some (.ladd, 59, 0) := by decide +kernel
theorem f7_59 : z_fetch 7 59 = some (.lreturn, 60, 0) := by decide +kernel
theorem f7_60 : z_fetch 7 60 = some (.lload 1, 61, 0) := by decide +kernel
theorem f7_61 : z_fetch 7 61 = some (.lload 3, 62, 0) := by decide +kernel
theorem f7_62 : z_fetch 7 62 = some (.lsub, 63, 0) := by decide +kernel
theorem f7_63 : z_fetch 7 63 = some (.lreturn, 64, 0) := by decide +kernel
theorem f7_64 : z_fetch 7 64 = some (.lload 1, 65, 0) := by decide +kernel
theorem f7_65 : z_fetch 7 65 = some (.lload 3, 66, 0) := by decide +kernel
theorem f7_66 : z_fetch 7 66 = some (.lmul, 67, 0) := by decide +kernel
theorem f7_67 : z_fetch 7 67 = some (.lreturn, 68, 0) := by decide +kernel
theorem f7_68 : z_fetch 7 68 = some (.lload 3, 69, 0) := by decide +kernel
theorem f7_69 : z_fetch 7 69 = some (.goto_w 0, 70, 0) := by decide +kernel
theorem f7_70 : z_fetch 7 70 = some (.lcmp, 71, 0) := by decide +kernel
theorem f7_71 : z_fetch 7 71 = some (.ifCond .ne 0, 74, 78) := by decide +kernel
theorem f7_74 : z_fetch 7 74 = some (.goto_w 0, 75, 0) := by decide +kernel
theorem f7_75 : z_fetch 7 75 = some (.goto 0, 78, 81) := by decide +kernel
theorem f7_78 : z_fetch 7 78 = some (.lload 1, 79, 0) := by decide +kernel
theorem f7_79 : z_fetch 7 79 = some (.lload 3, 80, 0) := by decide +kernel
theorem f7_80 : z_fetch 7 80 = some (.ldiv, 81, 0) := by decide +kernel
theorem f7_81 : z_fetch 7 81 = some (.lreturn, 82, 0) := by decide +kernel
theorem f7_82 : z_fetch 7 82 = some (.lload 1, 83, 0) := by decide +kernel
theorem f7_83 : z_fetch 7 83 = some (.lload 3, 84, 0) := by decide +kernel
theorem f7_84 : z_fetch 7 84 = some (.lcmp, 85, 0) := by decide +kernel
theorem f7_85 : z_fetch 7 85 = some (.ifCond .ge 0, 88, 92) := by decide +kernel
theorem f7_88 : z_fetch 7 88 = some (.goto_w 1, 89, 0) := by decide +kernel
theorem f7_89 : z_fetch 7 89 = some (.goto 0, 92, 93) := by decide +kernel
theorem f7_92 : z_fetch 7 92 = some (.goto_w 0, 93, 0) := by decide +kernel
theorem f7_93 : z_fetch 7 93 = some (.lreturn, 94, 0) := by decide +kernel
theorem f7_94 : z_fetch 7 94 = some (.lload 1, 95, 0) := by decide +kernel
theorem f7_95 : z_fetch 7 95 = some (.lload 3, 96, 0) := by decide +kernel
theorem f7_96 : z_fetch 7 96 = some (.lcmp, 97, 0) := by decide +kernel
theorem f7_97 : z_fetch 7 97 = some (.ifCond .gt 0, 100, 104) := by decide +kernel
theorem f7_100 : z_fetch 7 100 = some (.goto_w 1, 101, 0) := by decide +kernel
theorem f7_101 : z_fetch 7 101 = some (.goto 0, 104, 105) := by decide +kernel
theorem f7_104 : z_fetch 7 104 = some (.goto_w 0, 105, 0) := by decide +kernel
theorem f7_105 : z_fetch 7 105 = some (.lreturn, 106, 0) := by decide +kernel
theorem f7_106 : z_fetch 7 106 = some (.lload 1, 107, 0) := by decide +kernel
theorem f7_107 : z_fetch 7 107 = some (.lload 3, 108, 0) := by decide +kernel
theorem f7_108 : z_fetch 7 108 = some (.lcmp, 109, 0) := by decide +kernel
theorem f7_109 : z_fetch 7 109 = some (.ifCond .ne 0, 112, 116) := by decide +kernel
theorem f7_112 : z_fetch 7 112 = some (.goto_w 1, 113, 0) := by decide +kernel
theorem f7_113 : z_fetch 7 113 = some (.goto 0, 116, 117) := by decide +kernel
theorem f7_116 : z_fetch 7 116 = some (.goto_w 0, 117, 0) := by decide +kernel
theorem f7_117 : z_fetch 7 117 = some (.lreturn, 118, 0) := by decide +kernel
theorem f7_118 : z_fetch 7 118 = some (.lload 1, 119, 0) := by decide +kernel
theorem f7_119 : z_fetch 7 119 = some (.lload 3, 120, 0) := by decide +kernel
theorem f7_120 : z_fetch 7 120 = some (.lcmp, 121, 0) := by decide +kernel
theorem f7_121 : z_fetch 7 121 = some (.ifCond .lt 0, 124, 128) := by decide +kernel
theorem f7_124 : z_fetch 7 124 = some (.goto_w 1, 125, 0) := by decide +kernel
theorem f7_125 : z_fetch 7 125 = some (.goto 0, 128, 129) := by decide +kernel
theorem f7_128 : z_fetch 7 128 = some (.goto_w 0, 129, 0) := by decide +kernel
theorem f7_129 : z_fetch 7 129 = some (.lreturn, 130, 0) := by decide +kernel
theorem f7_130 : z_fetch 7 130 = some (.lload 1, 131, 0) := by decide +kernel
theorem f7_131 : z_fetch 7 131 = some (.lload 3, 132, 0) := by decide +kernel
theorem f7_132 : z_fetch 7 132 = some (.lcmp, 133, 0) := by decide +kernel
theorem f7_133 : z_fetch 7 133 = some (.ifCond .le 0, 136, 140) := by decide +kernel
theorem f7_136 : z_fetch 7 136 = some (.goto_w 1, 137, 0) := by decide +kernel
theorem f7_137 : z_fetch 7 137 = some (.goto 0, 140, 141) := by decide +kernel
theorem f7_140 : z_fetch 7 140 = some (.goto_w 0, 141, 0) := by decide +kernel
theorem f7_141 : z_fetch 7 141 = some (.lreturn, 142, 0) := by decide +kernel
theorem f7_142 : z_fetch 7 142 = some (.lload 1, 143, 0) := by decide +kernel
theorem f7_143 : z_fetch 7 143 = some (.lload 3, 144, 0) := by decide +kernel
theorem f7_144 : z_fetch 7 144 = some (.land, 145, 0) := by decide +kernel
theorem f7_145 : z_fetch 7 145 = some (.lreturn, 146, 0) := by decide +kernel
theorem f7_146 : z_fetch 7 146 = some (.lload 1, 147, 0) := by decide +kernel
theorem f7_147 : z_fetch 7 147 = some (.lload 3, 148, 0) := by decide +kernel
theorem f7_148 : z_fetch 7 148 = some (.lor, 149, 0) := by decide +kernel
theorem f7_149 : z_fetch 7 149 = some (.lreturn, 150, 0) := by decide +kernel
theorem f8_0 : z_fetch 8 0 = some (.aload 0, 1, 0) := by decide +kernel
theorem f8_1 : z_fetch 8 1 = some (.monitorenter, 4, 0) := by decide +kernel
theorem f8_4 : z_fetch 8 4 = some (.return_, 5, 0) := by decide +kernel
theorem f9_0 : z_fetch 9 0 = some (.aload 0, 1, 0) := by decide +kernel
theorem f9_1 : z_fetch 9 1 = some (.iload 1, 2, 0) := by decide +kernel
theorem f9_2 : z_fetch 9 2 = some (.putfield 1, 5, 0) := by decide +kernel
theorem f9_5 : z_fetch 9 5 = some (.aload 0, 6, 0) := by decide +kernel
theorem f9_6 : z_fetch 9 6 = some (.iload 2, 7, 0) := by decide +kernel
theorem f9_7 : z_fetch 9 7 = some (.putfield 1, 10, 1) := by decide +kernel
theorem f9_10 : z_fetch 9 10 = some (.aload 0, 11, 0) := by decide +kernel
theorem f9_11 : z_fetch 9 11 = some (.iconst 0, 12, 0) := by decide +kernel
theorem f9_12 : z_fetch 9 12 = some (.putfield 1, 15, 5) := by decide +kernel
theorem f9_15 : z_fetch 9 15 = some (.aload 0, 16, 0) := by decide +kernel
theorem f9_16 : z_fetch 9 16 = some (.iconst (-1), 17, 0) := by decide +kernel
theorem f9_17 : z_fetch 9 17 = some (.putfield 1, 20, 6) := by decide +kernel
theorem f9_20 : z_fetch 9 20 = some (.aload 0, 21, 0) := by decide +kernel
theorem f9_21 : z_fetch 9 21 = some (.iload 3, 22, 0) := by decide +kernel
theorem f9_22 : z_fetch 9 22 = some (.invokevirtual 11, 25, 0) := by decide +kernel
theorem f9_25 : z_fetch 9 25 = some (.return_, 26, 0) := by decide +kernel
theorem f10_0 : z_fetch 10 0 = some (.aload 0, 1, 0) := by decide +kernel
theorem f10_1 : z_fetch 10 1 = some (.aload 1, 2, 0) := by decide +kernel
theorem f10_2 : z_fetch 10 2 = some (.getfield 1, 5, 0) := by decide +kernel
theorem f10_5 : z_fetch 10 5 = some (.putfield 1, 8, 0) := by decide +kernel
theorem f10_8 : z_fetch 10 8 = some (.aload 0, 9, 0) := by decide +kernel
theorem f10_9 : z_fetch 10 9 = some (.aload 1, 10, 0) := by decide +kernel
theorem f10_10 : z_fetch 10 10 = some (.getfield 1, 13, 1) := by decide +kernel
theorem f10_13 : z_fetch 10 13 = some (.putfield 1, 16, 1) := by decide +kernel
theorem f10_16 : z_fetch 10 16 = some (.aload 0, 17, 0) := by decide +kernel
theorem f10_17 : z_fetch 10 17 = some (.aload 1, 18, 0) := by decide +kernel
theorem f10_18 : z_fetch 10 18 = some (.getfield 1, 21, 2) := by decide +kernel
theorem f10_21 : z_fetch 10 21 = some (.putfield 1, 24, 2) := by decide +kernel
theorem f10_24 : z_fetch 10 24 = some (.aload 0, 25, 0) := by decide +kernel
theorem f10_25 : z_fetch 10 25 = some (.aload 1, 26, 0) := by decide +kernel
theorem f10_26 : z_fetch 10 26 = some (.getfield 1, 29, 3) := by decide +kernel
theorem f10_29 : z_fetch 10 29 = some (.putfield 1, 32, 3) := by decide +kernel
theorem f10_32 : z_fetch 10 32 = some (.aload 0, 33, 0) := by decide +kernel
theorem f10_33 : z_fetch 10 33 = some (.aload 1, 34, 0) := by decide +kernel
theorem f10_34 : z_fetch 10 34 = some (.getfield 1, 37, 4) := by decide +kernel
theorem f10_37 : z_fetch 10 37 = some (.ldc_w 1, 40, 4) := by decide +kernel
theorem f10_40 : z_fetch 10 40 = some (.aload 0, 41, 0) := by decide +kernel
theorem f10_41 : z_fetch 10 41 = some (.aload 1, 42, 0) := by decide +kernel
theorem f10_42 : z_fetch 10 42 = some (.getfield 1, 45, 5) := by decide +kernel
theorem f10_45 : z_fetch 10 45 = some (.putfield 1, 48, 5) := by decide +kernel
theorem f10_48 : z_fetch 10 48 = some (.aload 0, 49, 0) := by decide +kernel
theorem f10_49 : z_fetch 10 49 = some (.aload 1, 50, 0) := by decide +kernel
theorem f10_50 : z_fetch 10 50 = some (.getfield 1, 53, 6) := by decide +kernel
theorem f10_53 : z_fetch 10 53 = some (.putfield 1, 56, 6) := by decide +kernel
theorem f10_56 : z_fetch 10 56 = some (.return_, 57, 0) := by decide +kernel
theorem f11_0 : z_fetch 11 0 = some (.aload 0, 1, 0) := by decide +kernel
theorem f11_1 : z_fetch 11 1 = some (.iload 1, 2, 0) := by decide +kernel
theorem f11_2 : z_fetch 11 2 = some (.putfield 1, 5, 2) := by decide +kernel
theorem f11_5 : z_fetch 11 5 = some (.aload 0, 6, 0) := by decide +kernel
theorem f11_6 : z_fetch 11 6 = some (.iconst 1, 7, 0) := by decide +kernel
theorem f11_7 : z_fetch 11 7 = some (.aload 0, 8, 0) := by decide +kernel
theorem f11_8 : z_fetch 11 8 = some (.getfield 1, 11, 1) := by decide +kernel
theorem f11_11 : z_fetch 11 11 = some (.ishl, 12, 0) := by decide +kernel
theorem f11_12 : z_fetch 11 12 = some (.putfield 1, 15, 3) := by decide +kernel
theorem f11_15 : z_fetch 11 15 = some (.aload 0, 16, 0) := by decide +kernel
theorem f11_16 : z_fetch 11 16 = some (.iconst 0, 17, 0) := by decide +kernel
theorem f11_17 : z_fetch 11 17 = some (.ldc_w 1, 20, 4) := by decide +kernel
theorem f11_20 : z_fetch 11 20 = some (.return_, 21, 0) := by decide +kernel
theorem f12_0 : z_fetch 12 0 = some (.aload 0, 1, 0) := by decide +kernel
theorem f12_1 : z_fetch 12 1 = some (.aload 0, 2, 0) := by decide +kernel
theorem f12_2 : z_fetch 12 2 = some (.getfield 1, 5, 3) := by decide +kernel
theorem f12_5 : z_fetch 12 5 = some (.iload 1, 6, 0) := by decide +kernel
theorem f12_6 : z_fetch 12 6 = some (.invokestatic 98, 9, 0) := by decide +kernel
theorem f12_9 : z_fetch 12 9 = some (.ifCond .ne 0, 12, 16) := by decide +kernel
theorem f12_12 : z_fetch 12 12 = some (.iconst 1, 13, 0) := by decide +kernel
theorem f12_13 : z_fetch 12 13 = some (.goto 0, 16, 17) := by decide +kernel
theorem f12_16 : z_fetch 12 16 = some (.iconst 0, 17, 0) := by decide +kernel
theorem f12_17 : z_fetch 12 17 = some (.ldc_w 1, 20, 4) := by decide +kernel
theorem f12_20 : z_fetch 12 20 = some (.aload 0, 21, 0) := by decide +kernel
theorem f12_21 : z_fetch 12 21 = some (.dup, 22, 0) := by decide +kernel
theorem f12_22 : z_fetch 12 22 = some (.getfield 1, 25, 3) := by decide +kernel
theorem f12_25 : z_fetch 12 25 = some (.iconst 1, 26, 0) := by decide +kernel
theorem f12_26 : z_fetch 12 26 = some (.iload 1, 27, 0) := by decide +kernel
theorem f12_27 : z_fetch 12 27 = some (.ishl, 28, 0) := by decide +kernel
theorem f12_28 : z_fetch 12 28 = some (.ior, 29, 0) := by decide +kernel
theorem f12_29 : z_fetch 12 29 = some (.putfield 1, 32, 3) := by decide +kernel
theorem f12_32 : z_fetch 12 32 = some (.aload 0, 33, 0) := by decide +kernel
theorem f12_33 : z_fetch 12 33 = some (.iload 1, 34, 0) := by decide +kernel
theorem f12_34 : z_fetch 12 34 = some (.putfield 1, 37, 1) := by decide +kernel
theorem f12_37 : z_fetch 12 37 = some (.return_, 38, 0) := by decide +kernel
theorem f13_0 : z_fetch 13 0 = some (.aload 0, 1, 0) := by decide +kernel
theorem f13_1 : z_fetch 13 1 = some (.monitorenter, 4, 0) := by decide +kernel
theorem f13_4 : z_fetch 13 4 = some (.aload 0, 5, 0) := by decide +kernel
theorem f13_5 : z_fetch 13 5 = some (.aload 1, 6, 0) := by decide +kernel
theorem f13_6 : z_fetch 13 6 = some (.putstatic 2, 9, 0) := by decide +kernel
theorem f13_9 : z_fetch 13 9 = some (.return_, 10, 0) := by decide +kernel
theorem f14_0 : z_fetch 14 0 = some (.aload 0, 1, 0) := by decide +kernel
theorem f14_1 : z_fetch 14 1 = some (.iconst 0, 2, 0) := by decide +kernel
theorem f14_2 : z_fetch 14 2 = some (.putfield 2, 5, 1) := by decide +kernel
theorem f14_5 : z_fetch 14 5 = some (.aload 1, 6, 0) := by decide +kernel
theorem f14_6 : z_fetch 14 6 = some (.instanceof 6, 9, 0) := by decide +kernel
theorem f14_9 : z_fetch 14 9 = some (.getfield 3, 12, 0) := by decide +kernel
theorem f14_12 : z_fetch 14 12 = some (.istore 5, 14, 0) := by decide +kernel
theorem f14_14 : z_fetch 14 14 = some (.iconst 0, 15, 0) := by decide +kernel
theorem f14_15 : z_fetch 14 15 = some (.istore 6, 17, 0) := by decide +kernel
theorem f14_17 : z_fetch 14 17 = some (.iload 6, 19, 0) := by decide +kernel
theorem f14_19 : z_fetch 14 19 = some (.iload 3, 20, 0) := by decide +kernel
theorem f14_20 : z_fetch 14 20 = some (.if_icmp .ge 0, 23, 80) := by decide +kernel
theorem f14_23 : z_fetch 14 23 = some (.iload 5, 25, 0) := by decide +kernel
theorem f14_25 : z_fetch 14 25 = some (.ifCond .le 0, 28, 80) := by decide +kernel
theorem f14_28 : z_fetch 14 28 = some (.iload 4, 30, 0) := by decide +kernel
theorem f14_30 : z_fetch 14 30 = some (.ifCond .eq 0, 33, 43) := by decide +kernel
theorem f14_33 : z_fetch 14 33 = some (.aload 1, 34, 0) := by decide +kernel
theorem f14_34 : z_fetch 14 34 = some (.invokevirtual 45, 37, 0) := by decide +kernel
theorem f14_37 : z_fetch 14 37 = some (.iload 5, 39, 0) := by decide +kernel
theorem f14_39 : z_fetch 14 39 = some (.irem, 40, 0) := by decide +kernel
theorem f14_40 : z_fetch 14 40 = some (.goto 0, 43, 44) := by decide +kernel
theorem f14_43 : z_fetch 14 43 = some (.iconst 0, 44, 0) := by decide +kernel
theorem f14_44 : z_fetch 14 44 = some (.istore 7, 46, 0) := by decide +kernel
theorem f14_46 : z_fetch 14 46 = some (.iload 4, 48, 0) := by decide +kernel
theorem f14_48 : z_fetch 14 48 = some (.ifCond .eq 0, 51, 61) := by decide +kernel
theorem f14_51 : z_fetch 14 51 = some (.aload 1, 52, 0) := by decide +kernel
theorem f14_52 : z_fetch 14 52 = some (.invokevirtual 45, 55, 0) := by decide +kernel
theorem f14_55 : z_fetch 14 55 = some (.iload 5, 57, 0) := by decide +kernel
theorem f14_57 : z_fetch 14 57 = some (.irem, 58, 0) := by decide +kernel
theorem f14_58 : z_fetch 14 58 = some (.goto 0, 61, 62) := by decide +kernel
theorem f14_61 : z_fetch 14 61 = some (.iconst 0, 62, 0) := by decide +kernel
theorem f14_62 : z_fetch 14 62 = some (.istore 8, 64, 0) := by decide +kernel
theorem f14_64 : z_fetch 14 64 = some (.aload 0, 65, 0) := by decide +kernel
theorem f14_65 : z_fetch 14 65 = some (.aload 1, 66, 0) := by decide +kernel
theorem f14_66 : z_fetch 14 66 = some (.aload 2, 67, 0) := by decide +kernel
theorem f14_67 : z_fetch 14 67 = some (.iload 7, 69, 0) := by decide +kernel
theorem f14_69 : z_fetch 14 69 = some (.iload 8, 71, 0) := by decide +kernel
theorem f14_71 : z_fetch 14 71 = some (.invokevirtual 15, 74, 0) := by decide +kernel
theorem f14_74 : z_fetch 14 74 = some (.iinc 6 1, 77, 0) := by decide +kernel
theorem f14_77 : z_fetch 14 77 = some (.goto 0, 80, 17) := by decide +kernel
theorem f14_80 : z_fetch 14 80 = some (.aload 0, 81, 0) := by decide +kernel
theorem f14_81 : z_fetch 14 81 = some (.getfield 2, 84, 1) := by decide +kernel
theorem f14_84 : z_fetch 14 84 = some (.ireturn, 85, 0) := by decide +kernel
theorem f15_0 : z_fetch 15 0 = some (.aload 1, 1, 0) := by decide +kernel
theorem f15_1 : z_fetch 15 1 = some (.instanceof 6, 4, 0) := by decide +kernel
theorem f15_4 : z_fetch 15 4 = some (.astore 5, 6, 0) := by decide +kernel
theorem f15_6 : z_fetch 15 6 = some (.iconst 0, 7, 0) := by decide +kernel
theorem f15_7 : z_fetch 15 7 = some (.istore 6, 9, 0) := by decide +kernel
theorem f15_9 : z_fetch 15 9 = some (.iload 6, 11, 0) := by decide +kernel
theorem f15_11 : z_fetch 15 11 = some (.aload 5, 13, 0) := by decide +kernel
theorem f15_13 : z_fetch 15 13 = some (.getfield 3, 16, 3) := by decide +kernel
theorem f15_16 : z_fetch 15 16 = some (.if_icmp .ge 0, 19, 62) := by decide +kernel
theorem f15_19 : z_fetch 15 19 = some (.aload 5, 21, 0) := by decide +kernel
theorem f15_21 : z_fetch 15 21 = some (.instanceof 3, 24, 7) := by decide +kernel
theorem f15_24 : z_fetch 15 24 = some (.iload 6, 26, 0) := by decide +kernel
theorem f15_26 : z_fetch 15 26 = some (.iaload, 27, 0) := by decide +kernel
theorem f15_27 : z_fetch 15 27 = some (.aload 1, 28, 0) := by decide +kernel
theorem f15_28 : z_fetch 15 28 = some (.getfield 6, 31, 1) := by decide +kernel
theorem f15_31 : z_fetch 15 31 = some (.if_icmp .ne 0, 34, 56) := by decide +kernel
theorem f15_34 : z_fetch 15 34 = some (.aload 0, 35, 0) := by decide +kernel
theorem f15_35 : z_fetch 15 35 = some (.aload 1, 36, 0) := by decide +kernel
theorem f15_36 : z_fetch 15 36 = some (.aload 2, 37, 0) := by decide +kernel
theorem f15_37 : z_fetch 15 37 = some (.aload 5, 39, 0) := by decide +kernel
theorem f15_39 : z_fetch 15 39 = some (.instanceof 3, 42, 8) := by decide +kernel
theorem f15_42 : z_fetch 15 42 = some (.iload 6, 44, 0) := by decide +kernel
theorem f15_44 : z_fetch 15 44 = some (.iaload, 45, 0) := by decide +kernel
theorem f15_45 : z_fetch 15 45 = some (.aload 5, 47, 0) := by decide +kernel
theorem f15_47 : z_fetch 15 47 = some (.instanceof 3, 50, 9) := by decide +kernel
theorem f15_50 : z_fetch 15 50 = some (.iload 6, 52, 0) := by decide +kernel
theorem f15_52 : z_fetch 15 52 = some (.iaload, 53, 0) := by decide +kernel
theorem f15_53 : z_fetch 15 53 = some (.invokevirtual 16, 56, 0) := by decide +kernel
theorem f15_56 : z_fetch 15 56 = some (.iinc 6 1, 59, 0) := by decide +kernel
theorem f15_59 : z_fetch 15 59 = some (.goto 0, 62, 9) := by decide +kernel
theorem f15_62 : z_fetch 15 62 = some (.iload 3, 63, 0) := by decide +kernel
theorem f15_63 : z_fetch 15 63 = some (.iload 4, 65, 0) := by decide +kernel
theorem f15_65 : z_fetch 15 65 = some (.if_icmp .eq 0, 68, 77) := by decide +kernel
theorem f15_68 : z_fetch 15 68 = some (.aload 0, 69, 0) := by decide +kernel
theorem f15_69 : z_fetch 15 69 = some (.aload 1, 70, 0) := by decide +kernel
theorem f15_70 : z_fetch 15 70 = some (.aload 2, 71, 0) := by decide +kernel
theorem f15_71 : z_fetch 15 71 = some (.iload 3, 72, 0) := by decide +kernel
theorem f15_72 : z_fetch 15 72 = some (.iload 4, 74, 0) := by decide +kernel
theorem f15_74 : z_fetch 15 74 = some (.invokevirtual 16, 77, 0) := by decide +kernel
theorem f15_77 : z_fetch 15 77 = some (.iconst 0, 78, 0) := by decide +kernel
theorem f15_78 : z_fetch 15 78 = some (.istore 6, 80, 0) := by decide +kernel
theorem f15_80 : z_fetch 15 80 = some (.iload 6, 82, 0) := by decide +kernel
theorem f15_82 : z_fetch 15 82 = some (.aload 5, 84, 0) := by decide +kernel
theorem f15_84 : z_fetch 15 84 = some (.getfield 3, 87, 2) := by decide +kernel
theorem f15_87 : z_fetch 15 87 = some (.if_icmp .ge 0, 90, 162) := by decide +kernel
theorem f15_90 : z_fetch 15 90 = some (.aload 1, 91, 0) := by decide +kernel
theorem f15_91 : z_fetch 15 91 = some (.instanceof 6, 94, 5) := by decide +kernel
theorem f15_94 : z_fetch 15 94 = some (.iload 6, 96, 0) := by decide +kernel
theorem f15_96 : z_fetch 15 96 = some (.aaload, 97, 0) := by decide +kernel
theorem f15_97 : z_fetch 15 97 = some (.astore 7, 99, 0) := by decide +kernel
theorem f15_99 : z_fetch 15 99 = some (.aload 7, 101, 0) := by decide +kernel
theorem f15_101 : z_fetch 15 101 = some (.getfield 1, 104, 4) := by decide +kernel
theorem f15_104 : z_fetch 15 104 = some (.ifCond .eq 0, 107, 156) := by decide +kernel
theorem f15_107 : z_fetch 15 107 = some (.aload 1, 108, 0) := by decide +kernel
theorem f15_108 : z_fetch 15 108 = some (.aload 7, 110, 0) := by decide +kernel
theorem f15_110 : z_fetch 15 110 = some (.invokevirtual 37, 113, 0) := by decide +kernel
theorem f15_113 : z_fetch 15 113 = some (.ifCond .ne 0, 116, 156) := by decide +kernel
theorem f15_116 : z_fetch 15 116 = some (.aload 0, 117, 0) := by decide +kernel
theorem f15_117 : z_fetch 15 117 = some (.instanceof 2, 120, 0) := by decide +kernel
theorem f15_120 : z_fetch 15 120 = some (.aload 1, 121, 0) := by decide +kernel
theorem f15_121 : z_fetch 15 121 = some (.iload 6, 123, 0) := by decide +kernel
theorem f15_123 : z_fetch 15 123 = some (.invokevirtual 2, 126, 0) := by decide +kernel
theorem f15_126 : z_fetch 15 126 = some (.aload 2, 127, 0) := by decide +kernel
theorem f15_127 : z_fetch 15 127 = some (.iconst 2, 128, 0) := by decide +kernel
theorem f15_128 : z_fetch 15 128 = some (.aload 0, 129, 0) := by decide +kernel
theorem f15_129 : z_fetch 15 129 = some (.instanceof 2, 132, 0) := by decide +kernel
theorem f15_132 : z_fetch 15 132 = some (.invokevirtual 22, 135, 0) := by decide +kernel
theorem f15_135 : z_fetch 15 135 = some (.ifCond .ne 0, 138, 156) := by decide +kernel
theorem f15_138 : z_fetch 15 138 = some (.aload 2, 139, 0) := by decide +kernel
theorem f15_139 : z_fetch 15 139 = some (.iconst 3, 140, 0) := by decide +kernel
theorem f15_140 : z_fetch 15 140 = some (.aload 0, 141, 0) := by decide +kernel
theorem f15_141 : z_fetch 15 141 = some (.instanceof 2, 144, 0) := by decide +kernel
theorem f15_144 : z_fetch 15 144 = some (.invokevirtual 22, 147, 0) := by decide +kernel
theorem f15_147 : z_fetch 15 147 = some (.ifCond .eq 0, 150, 156) := by decide +kernel
theorem f15_150 : z_fetch 15 150 = some (.aload 1, 151, 0) := by decide +kernel
theorem f15_151 : z_fetch 15 151 = some (.aload 7, 153, 0) := by decide +kernel
theorem f15_153 : z_fetch 15 153 = some (.invokevirtual 44, 156, 0) := by decide +kernel
theorem f15_156 : z_fetch 15 156 = some (.iinc 6 1, 159, 0) := by decide +kernel
theorem f15_159 : z_fetch 15 159 = some (.goto 0, 162, 80) := by decide +kernel
theorem f15_162 : z_fetch 15 162 = some (.aload 1, 163, 0) := by decide +kernel
theorem f15_163 : z_fetch 15 163 = some (.aload 1, 164, 0) := by decide +kernel
theorem f15_164 : z_fetch 15 164 = some (.getfield 6, 167, 1) := by decide +kernel
theorem f15_167 : z_fetch 15 167 = some (.iconst 1, 168, 0) := by decide +kernel
theorem f15_168 : z_fetch 15 168 = some (.iadd, 169, 0) := by decide +kernel
theorem f15_169 : z_fetch 15 169 = some (.iconst 19999, 172, 0) := by decide +kernel
theorem f15_172 : z_fetch 15 172 = some (.fneg, 175, 0) := by decide +kernel
theorem f15_175 : z_fetch 15 175 = some (.putfield 6, 178, 1) := by decide +kernel
theorem f15_178 : z_fetch 15 178 = some (.return_, 179, 0) := by decide +kernel
theorem f16_0 : z_fetch 16 0 = some (.aload 1, 1, 0) := by decide +kernel
theorem f16_1 : z_fetch 16 1 = some (.iload 4, 3, 0) := by decide +kernel
theorem f16_3 : z_fetch 16 3 = some (.invokevirtual 39, 6, 0) := by decide +kernel
theorem f16_6 : z_fetch 16 6 = some (.istore 5, 8, 0) := by decide +kernel
theorem f16_8 : z_fetch 16 8 = some (.aload 0, 9, 0) := by decide +kernel
theorem f16_9 : z_fetch 16 9 = some (.aload 1, 10, 0) := by decide +kernel
theorem f16_10 : z_fetch 16 10 = some (.aload 2, 11, 0) := by decide +kernel
theorem f16_11 : z_fetch 16 11 = some (.aload 1, 12, 0) := by decide +kernel
theorem f16_12 : z_fetch 16 12 = some (.iload 3, 13, 0) := by decide +kernel
theorem f16_13 : z_fetch 16 13 = some (.invokevirtual 39, 16, 0) := by decide +kernel
theorem f16_16 : z_fetch 16 16 = some (.iload 4, 18, 0) := by decide +kernel
theorem f16_18 : z_fetch 16 18 = some (.invokevirtual 17, 21, 0) := by decide +kernel
theorem f16_21 : z_fetch 16 21 = some (.aload 0, 22, 0) := by decide +kernel
theorem f16_22 : z_fetch 16 22 = some (.aload 1, 23, 0) := by decide +kernel
theorem f16_23 : z_fetch 16 23 = some (.aload 2, 24, 0) := by decide +kernel
theorem f16_24 : z_fetch 16 24 = some (.iload 5, 26, 0) := by decide +kernel
theorem f16_26 : z_fetch 16 26 = some (.iload 3, 27, 0) := by decide +kernel
theorem f16_27 : z_fetch 16 27 = some (.invokevirtual 17, 30, 0) := by decide +kernel
theorem f16_30 : z_fetch 16 30 = some (.return_, 31, 0) := by decide +kernel
theorem f17_0 : z_fetch 17 0 = some (.iconst 0, 1, 0) := by decide +kernel
theorem f17_1 : z_fetch 17 1 = some (.istore 5, 3, 0) := by decide +kernel
theorem f17_3 : z_fetch 17 3 = some (.iload 5, 5, 0) := by decide +kernel
theorem f17_5 : z_fetch 17 5 = some (.aload 1, 6, 0) := by decide +kernel
theorem f17_6 : z_fetch 17 6 = some (.instanceof 6, 9, 0) := by decide +kernel
theorem f17_9 : z_fetch 17 9 = some (.getfield 3, 12, 2) := by decide +kernel
theorem f17_12 : z_fetch 17 12 = some (.if_icmp .ge 0, 15, 101) := by decide +kernel
theorem f17_15 : z_fetch 17 15 = some (.aload 1, 16, 0) := by decide +kernel
theorem f17_16 : z_fetch 17 16 = some (.instanceof 6, 19, 5) := by decide +kernel
theorem f17_19 : z_fetch 17 19 = some (.iload 5, 21, 0) := by decide +kernel
theorem f17_21 : z_fetch 17 21 = some (.aaload, 22, 0) := by decide +kernel
theorem f17_22 : z_fetch 17 22 = some (.astore 6, 24, 0) := by decide +kernel
theorem f17_24 : z_fetch 17 24 = some (.iload 3, 25, 0) := by decide +kernel
theorem f17_25 : z_fetch 17 25 = some (.iload 5, 27, 0) := by decide +kernel
theorem f17_27 : z_fetch 17 27 = some (.invokestatic 98, 30, 0) := by decide +kernel
theorem f17_30 : z_fetch 17 30 = some (.ifCond .eq 0, 33, 95) := by decide +kernel
theorem f17_33 : z_fetch 17 33 = some (.aload 1, 34, 0) := by decide +kernel
theorem f17_34 : z_fetch 17 34 = some (.aload 6, 36, 0) := by decide +kernel
theorem f17_36 : z_fetch 17 36 = some (.invokevirtual 37, 39, 0) := by decide +kernel
theorem f17_39 : z_fetch 17 39 = some (.ifCond .ne 0, 42, 95) := by decide +kernel
theorem f17_42 : z_fetch 17 42 = some (.aload 0, 43, 0) := by decide +kernel
theorem f17_43 : z_fetch 17 43 = some (.instanceof 2, 46, 0) := by decide +kernel
theorem f17_46 : z_fetch 17 46 = some (.aload 1, 47, 0) := by decide +kernel
theorem f17_47 : z_fetch 17 47 = some (.iload 5, 49, 0) := by decide +kernel
theorem f17_49 : z_fetch 17 49 = some (.iload 4, 51, 0) := by decide +kernel
theorem f17_51 : z_fetch 17 51 = some (.invokevirtual 1, 54, 0) := by decide +kernel
theorem f17_54 : z_fetch 17 54 = some (.aload 2, 55, 0) := by decide +kernel
theorem f17_55 : z_fetch 17 55 = some (.iconst 2, 56, 0) := by decide +kernel
theorem f17_56 : z_fetch 17 56 = some (.aload 0, 57, 0) := by decide +kernel
theorem f17_57 : z_fetch 17 57 = some (.instanceof 2, 60, 0) := by decide +kernel
theorem f17_60 : z_fetch 17 60 = some (.invokevirtual 22, 63, 0) := by decide +kernel
theorem f17_63 : z_fetch 17 63 = some (.ifCond .ne 0, 66, 95) := by decide +kernel
theorem f17_66 : z_fetch 17 66 = some (.aload 2, 67, 0) := by decide +kernel
theorem f17_67 : z_fetch 17 67 = some (.iconst 1, 68, 0) := by decide +kernel
theorem f17_68 : z_fetch 17 68 = some (.aload 0, 69, 0) := by decide +kernel
theorem f17_69 : z_fetch 17 69 = some (.instanceof 2, 72, 0) := by decide +kernel
theorem f17_72 : z_fetch 17 72 = some (.invokevirtual 22, 75, 0) := by decide +kernel
theorem f17_75 : z_fetch 17 75 = some (.ifCond .eq 0, 78, 95) := by decide +kernel
theorem f17_78 : z_fetch 17 78 = some (.aload 6, 80, 0) := by decide +kernel
theorem f17_80 : z_fetch 17 80 = some (.iload 4, 82, 0) := by decide +kernel
theorem f17_82 : z_fetch 17 82 = some (.invokevirtual 12, 85, 0) := by decide +kernel
theorem f17_85 : z_fetch 17 85 = some (.aload 0, 86, 0) := by decide +kernel
theorem f17_86 : z_fetch 17 86 = some (.dup, 87, 0) := by decide +kernel
theorem f17_87 : z_fetch 17 87 = some (.getfield 2, 90, 1) := by decide +kernel
theorem f17_90 : z_fetch 17 90 = some (.iconst 1, 91, 0) := by decide +kernel
theorem f17_91 : z_fetch 17 91 = some (.iadd, 92, 0) := by decide +kernel
theorem f17_92 : z_fetch 17 92 = some (.putfield 2, 95, 1) := by decide +kernel
theorem f17_95 : z_fetch 17 95 = some (.iinc 5 1, 98, 0) := by decide +kernel
theorem f17_98 : z_fetch 17 98 = some (.goto 0, 101, 3) := by decide +kernel
theorem f17_101 : z_fetch 17 101 = some (.return_, 102, 0) := by decide +kernel
theorem f18_0 : z_fetch 18 0 = some (.aload 0, 1, 0) := by decide +kernel
theorem f18_1 : z_fetch 18 1 = some (.monitorenter, 4, 0) := by decide +kernel
theorem f18_4 : z_fetch 18 4 = some (.aload 0, 5, 0) := by decide +kernel
theorem f18_5 : z_fetch 18 5 = some (.iconst 8, 7, 0) := by decide +kernel
theorem f18_7 : z_fetch 18 7 = some (.newarray .int, 9, 0) := by decide +kernel
theorem f18_9 : z_fetch 18 9 = some (.putstatic 3, 12, 4) := by decide +kernel
theorem f18_12 : z_fetch 18 12 = some (.aload 0, 13, 0) := by decide +kernel
theorem f18_13 : z_fetch 18 13 = some (.iconst 8, 15, 0) := by decide +kernel
theorem f18_15 : z_fetch 18 15 = some (.newarray .int, 17, 0) := by decide +kernel
theorem f18_17 : z_fetch 18 17 = some (.putstatic 3, 20, 5) := by decide +kernel
theorem f18_20 : z_fetch 18 20 = some (.aload 0, 21, 0) := by decide +kernel
theorem f18_21 : z_fetch 18 21 = some (.iconst 8, 23, 0) := by decide +kernel
theorem f18_23 : z_fetch 18 23 = some (.newarray .int, 25, 0) := by decide +kernel
theorem f18_25 : z_fetch 18 25 = some (.putstatic 3, 28, 6) := by decide +kernel
theorem f18_28 : z_fetch 18 28 = some (.aload 0, 29, 0) := by decide +kernel
theorem f18_29 : z_fetch 18 29 = some (.iconst 24, 31, 0) := by decide +kernel
theorem f18_31 : z_fetch 18 31 = some (.newarray .int, 33, 0) := by decide +kernel
theorem f18_33 : z_fetch 18 33 = some (.putstatic 3, 36, 7) := by decide +kernel
theorem f18_36 : z_fetch 18 36 = some (.aload 0, 37, 0) := by decide +kernel
theorem f18_37 : z_fetch 18 37 = some (.iconst 24, 39, 0) := by decide +kernel
theorem f18_39 : z_fetch 18 39 = some (.newarray .int, 41, 0) := by decide +kernel
theorem f18_41 : z_fetch 18 41 = some (.putstatic 3, 44, 8) := by decide +kernel
theorem f18_44 : z_fetch 18 44 = some (.aload 0, 45, 0) := by decide +kernel
theorem f18_45 : z_fetch 18 45 = some (.iconst 24, 47, 0) := by decide +kernel
theorem f18_47 : z_fetch 18 47 = some (.newarray .int, 49, 0) := by decide +kernel
theorem f18_49 : z_fetch 18 49 = some (.putstatic 3, 52, 9) := by decide +kernel
theorem f18_52 : z_fetch 18 52 = some (.aload 0, 53, 0) := by decide +kernel
theorem f18_53 : z_fetch 18 53 = some (.iconst 24, 55, 0) := by decide +kernel
theorem f18_55 : z_fetch 18 55 = some (.newarray .int, 57, 0) := by decide +kernel
theorem f18_57 : z_fetch 18 57 = some (.putstatic 3, 60, 10) := by decide +kernel
theorem f18_60 : z_fetch 18 60 = some (.return_, 61, 0) := by decide +kernel
theorem f19_0 : z_fetch 19 0 = some (.aload 0, 1, 0) := by decide +kernel
theorem f19_1 : z_fetch 19 1 = some (.getfield 3, 4, 2) := by decide +kernel
theorem f19_4 : z_fetch 19 4 = some (.iconst 8, 6, 0) := by decide +kernel
theorem f19_6 : z_fetch 19 6 = some (.if_icmp .ge 0, 9, 49) := by decide +kernel
theorem f19_9 : z_fetch 19 9 = some (.aload 0, 10, 0) := by decide +kernel
theorem f19_10 : z_fetch 19 10 = some (.instanceof 3, 13, 4) := by decide +kernel
theorem f19_13 : z_fetch 19 13 = some (.aload 0, 14, 0) := by decide +kernel
theorem f19_14 : z_fetch 19 14 = some (.getfield 3, 17, 2) := by decide +kernel
theorem f19_17 : z_fetch 19 17 = some (.iload 1, 18, 0) := by decide +kernel
theorem f19_18 : z_fetch 19 18 = some (.iastore, 19, 0) := by decide +kernel
theorem f19_19 : z_fetch 19 19 = some (.aload 0, 20, 0) := by decide +kernel
theorem f19_20 : z_fetch 19 20 = some (.instanceof 3, 23, 5) := by decide +kernel
theorem f19_23 : z_fetch 19 23 = some (.aload 0, 24, 0) := by decide +kernel
theorem f19_24 : z_fetch 19 24 = some (.getfield 3, 27, 2) := by decide +kernel
theorem f19_27 : z_fetch 19 27 = some (.iload 2, 28, 0) := by decide +kernel
theorem f19_28 : z_fetch 19 28 = some (.iastore, 29, 0) := by decide +kernel
theorem f19_29 : z_fetch 19 29 = some (.aload 0, 30, 0) := by decide +kernel
theorem f19_30 : z_fetch 19 30 = some (.instanceof 3, 33, 6) := by decide +kernel
theorem f19_33 : z_fetch 19 33 = some (.aload 0, 34, 0) := by decide +kernel
theorem f19_34 : z_fetch 19 34 = some (.getfield 3, 37, 2) := by decide +kernel
theorem f19_37 : z_fetch 19 37 = some (.iload 3, 38, 0) := by decide +kernel
theorem f19_38 : z_fetch 19 38 = some (.iastore, 39, 0) := by decide +kernel
theorem f19_39 : z_fetch 19 39 = some (.aload 0, 40, 0) := by decide +kernel
theorem f19_40 : z_fetch 19 40 = some (.dup, 41, 0) := by decide +kernel
theorem f19_41 : z_fetch 19 41 = some (.getfield 3, 44, 2) := by decide +kernel
theorem f19_44 : z_fetch 19 44 = some (.iconst 1, 45, 0) := by decide +kernel
theorem f19_45 : z_fetch 19 45 = some (.iadd, 46, 0) := by decide +kernel
theorem f19_46 : z_fetch 19 46 = some (.putfield 3, 49, 2) := by decide +kernel
theorem f19_49 : z_fetch 19 49 = some (.return_, 50, 0) := by decide +kernel
theorem f20_0 : z_fetch 20 0 = some (.aload 0, 1, 0) := by decide +kernel
theorem f20_1 : z_fetch 20 1 = some (.getfield 3, 4, 3) := by decide +kernel
theorem f20_4 : z_fetch 20 4 = some (.iconst 24, 6, 0) := by decide +kernel
theorem f20_6 : z_fetch 20 6 = some (.if_icmp .ge 0, 9, 111) := by decide +kernel
theorem f20_9 : z_fetch 20 9 = some (.aload 0, 10, 0) := by decide +kernel
theorem f20_10 : z_fetch 20 10 = some (.instanceof 3, 13, 7) := by decide +kernel
theorem f20_13 : z_fetch 20 13 = some (.aload 0, 14, 0) := by decide +kernel
theorem f20_14 : z_fetch 20 14 = some (.getfield 3, 17, 3) := by decide +kernel
theorem f20_17 : z_fetch 20 17 = some (.iload 1, 18, 0) := by decide +kernel
theorem f20_18 : z_fetch 20 18 = some (.iastore, 19, 0) := by decide +kernel
theorem f20_19 : z_fetch 20 19 = some (.aload 0, 20, 0) := by decide +kernel
theorem f20_20 : z_fetch 20 20 = some (.instanceof 3, 23, 8) := by decide +kernel
theorem f20_23 : z_fetch 20 23 = some (.aload 0, 24, 0) := by decide +kernel
theorem f20_24 : z_fetch 20 24 = some (.getfield 3, 27, 3) := by decide +kernel
theorem f20_27 : z_fetch 20 27 = some (.iload 2, 28, 0) := by decide +kernel
theorem f20_28 : z_fetch 20 28 = some (.iastore, 29, 0) := by decide +kernel
theorem f20_29 : z_fetch 20 29 = some (.aload 0, 30, 0) := by decide +kernel
theorem f20_30 : z_fetch 20 30 = some (.instanceof 3, 33, 9) := by decide +kernel
theorem f20_33 : z_fetch 20 33 = some (.aload 0, 34, 0) := by decide +kernel
theorem f20_34 : z_fetch 20 34 = some (.getfield 3, 37, 3) := by decide +kernel
theorem f20_37 : z_fetch 20 37 = some (.iload 3, 38, 0) := by decide +kernel
theorem f20_38 : z_fetch 20 38 = some (.iastore, 39, 0) := by decide +kernel
theorem f20_39 : z_fetch 20 39 = some (.aload 0, 40, 0) := by decide +kernel
theorem f20_40 : z_fetch 20 40 = some (.getfield 3, 43, 3) := by decide +kernel
theorem f20_43 : z_fetch 20 43 = some (.istore 4, 45, 0) := by decide +kernel
theorem f20_45 : z_fetch 20 45 = some (.iload 4, 47, 0) := by decide +kernel
theorem f20_47 : z_fetch 20 47 = some (.ifCond .le 0, 50, 90) := by decide +kernel
theorem f20_50 : z_fetch 20 50 = some (.aload 0, 51, 0) := by decide +kernel
theorem f20_51 : z_fetch 20 51 = some (.instanceof 3, 54, 7) := by decide +kernel
theorem f20_54 : z_fetch 20 54 = some (.aload 0, 55, 0) := by decide +kernel
theorem f20_55 : z_fetch 20 55 = some (.instanceof 3, 58, 10) := by decide +kernel
theorem f20_58 : z_fetch 20 58 = some (.iload 4, 60, 0) := by decide +kernel
theorem f20_60 : z_fetch 20 60 = some (.iconst 1, 61, 0) := by decide +kernel
theorem f20_61 : z_fetch 20 61 = some (.isub, 62, 0) := by decide +kernel
theorem f20_62 : z_fetch 20 62 = some (.iaload, 63, 0) := by decide +kernel
theorem f20_63 : z_fetch 20 63 = some (.iaload, 64, 0) := by decide +kernel
theorem f20_64 : z_fetch 20 64 = some (.iload 1, 65, 0) := by decide +kernel
theorem f20_65 : z_fetch 20 65 = some (.if_icmp .le 0, 68, 90) := by decide +kernel
theorem f20_68 : z_fetch 20 68 = some (.aload 0, 69, 0) := by decide +kernel
theorem f20_69 : z_fetch 20 69 = some (.instanceof 3, 72, 10) := by decide +kernel
theorem f20_72 : z_fetch 20 72 = some (.iload 4, 74, 0) := by decide +kernel
theorem f20_74 : z_fetch 20 74 = some (.aload 0, 75, 0) := by decide +kernel
theorem f20_75 : z_fetch 20 75 = some (.instanceof 3, 78, 10) := by decide +kernel
theorem f20_78 : z_fetch 20 78 = some (.iload 4, 80, 0) := by decide +kernel
theorem f20_80 : z_fetch 20 80 = some (.iconst 1, 81, 0) := by decide +kernel
theorem f20_81 : z_fetch 20 81 = some (.isub, 82, 0) := by decide +kernel
theorem f20_82 : z_fetch 20 82 = some (.iaload, 83, 0) := by decide +kernel
theorem f20_83 : z_fetch 20 83 = some (.iastore, 84, 0) := by decide +kernel
theorem f20_84 : z_fetch 20 84 = some (.iinc 4 (-1), 87, 0) := by decide +kernel
theorem f20_87 : z_fetch 20 87 = some (.goto 0, 90, 45) := by decide +kernel
theorem f20_90 : z_fetch 20 90 = some (.aload 0, 91, 0) := by decide +kernel
theorem f20_91 : z_fetch 20 91 = some (.instanceof 3, 94, 10) := by decide +kernel
theorem f20_94 : z_fetch 20 94 = some (.iload 4, 96, 0) := by decide +kernel
theorem f20_96 : z_fetch 20 96 = some (.aload 0, 97, 0) := by decide +kernel
theorem f20_97 : z_fetch 20 97 = some (.getfield 3, 100, 3) := by decide +kernel
theorem f20_100 : z_fetch 20 100 = some (.iastore, 101, 0) := by decide +kernel
theorem f20_101 : z_fetch 20 101 = some (.aload 0, 102, 0) := by decide +kernel
theorem f20_102 : z_fetch 20 102 = some (.dup, 103, 0) := by decide +kernel
theorem f20_103 : z_fetch 20 103 = some (.getfield 3, 106, 3) := by decide +kernel
theorem f20_106 : z_fetch 20 106 = some (.iconst 1, 107, 0) := by decide +kernel
theorem f20_107 : z_fetch 20 107 = some (.iadd, 108, 0) := by decide +kernel
theorem f20_108 : z_fetch 20 108 = some (.putfield 3, 111, 3) := by decide +kernel
theorem f20_111 : z_fetch 20 111 = some (.return_, 112, 0) := by decide +kernel
theorem f21_0 : z_fetch 21 0 = some (.aload 0, 1, 0) := by decide +kernel
theorem f21_1 : z_fetch 21 1 = some (.monitorenter, 4, 0) := by decide +kernel
theorem f21_4 : z_fetch 21 4 = some (.aload 0, 5, 0) := by decide +kernel
theorem f21_5 : z_fetch 21 5 = some (.aload 1, 6, 0) := by decide +kernel
theorem f21_6 : z_fetch 21 6 = some (.putstatic 4, 9, 0) := by decide +kernel
theorem f21_9 : z_fetch 21 9 = some (.aload 0, 10, 0) := by decide +kernel
theorem f21_10 : z_fetch 21 10 = some (.aload 2, 11, 0) := by decide +kernel
theorem f21_11 : z_fetch 21 11 = some (.putstatic 4, 14, 1) := by decide +kernel
theorem f21_14 : z_fetch 21 14 = some (.aload 0, 15, 0) := by decide +kernel
theorem f21_15 : z_fetch 21 15 = some (.aload 3, 16, 0) := by decide +kernel
theorem f21_16 : z_fetch 21 16 = some (.putstatic 4, 19, 2) := by decide +kernel
theorem f21_19 : z_fetch 21 19 = some (.return_, 20, 0) := by decide +kernel
theorem f22_0 : z_fetch 22 0 = some (.iconst 0, 1, 0) := by decide +kernel
theorem f22_1 : z_fetch 22 1 = some (.istore 3, 2, 0) := by decide +kernel
theorem f22_2 : z_fetch 22 2 = some (.iconst 0, 3, 0) := by decide +kernel
theorem f22_3 : z_fetch 22 3 = some (.istore 4, 5, 0) := by decide +kernel
theorem f22_5 : z_fetch 22 5 = some (.iload 4, 7, 0) := by decide +kernel
theorem f22_7 : z_fetch 22 7 = some (.aload 0, 8, 0) := by decide +kernel
theorem f22_8 : z_fetch 22 8 = some (.instanceof 4, 11, 1) := by decide +kernel
theorem f22_11 : z_fetch 22 11 = some (.arraylength, 12, 0) := by decide +kernel
theorem f22_12 : z_fetch 22 12 = some (.if_icmp .ge 0, 15, 71) := by decide +kernel
theorem f22_15 : z_fetch 22 15 = some (.iload 4, 17, 0) := by decide +kernel
theorem f22_17 : z_fetch 22 17 = some (.aload 0, 18, 0) := by decide +kernel
theorem f22_18 : z_fetch 22 18 = some (.instanceof 4, 21, 2) := by decide +kernel
theorem f22_21 : z_fetch 22 21 = some (.arraylength, 22, 0) := by decide +kernel
theorem f22_22 : z_fetch 22 22 = some (.if_icmp .ge 0, 25, 71) := by decide +kernel
theorem f22_25 : z_fetch 22 25 = some (.aload 0, 26, 0) := by decide +kernel
theorem f22_26 : z_fetch 22 26 = some (.instanceof 4, 29, 1) := by decide +kernel
theorem f22_29 : z_fetch 22 29 = some (.iload 4, 31, 0) := by decide +kernel
theorem f22_31 : z_fetch 22 31 = some (.iaload, 32, 0) := by decide +kernel
theorem f22_32 : z_fetch 22 32 = some (.iload 1, 33, 0) := by decide +kernel
theorem f22_33 : z_fetch 22 33 = some (.if_icmp .ne 0, 36, 57) := by decide +kernel
theorem f22_36 : z_fetch 22 36 = some (.aload 2, 37, 0) := by decide +kernel
theorem f22_37 : z_fetch 22 37 = some (.aload 0, 38, 0) := by decide +kernel
theorem f22_38 : z_fetch 22 38 = some (.instanceof 4, 41, 0) := by decide +kernel
theorem f22_41 : z_fetch 22 41 = some (.iload 3, 42, 0) := by decide +kernel
theorem f22_42 : z_fetch 22 42 = some (.aload 0, 43, 0) := by decide +kernel
theorem f22_43 : z_fetch 22 43 = some (.instanceof 4, 46, 2) := by decide +kernel
theorem f22_46 : z_fetch 22 46 = some (.iload 4, 48, 0) := by decide +kernel
theorem f22_48 : z_fetch 22 48 = some (.iaload, 49, 0) := by decide +kernel
theorem f22_49 : z_fetch 22 49 = some (.invokevirtual 6, 52, 0) := by decide +kernel
theorem f22_52 : z_fetch 22 52 = some (.ifCond .eq 0, 55, 57) := by decide +kernel
theorem f22_55 : z_fetch 22 55 = some (.iconst 1, 56, 0) := by decide +kernel
theorem f22_56 : z_fetch 22 56 = some (.ireturn, 57, 1) := by decide +kernel
theorem f22_57 : z_fetch 22 57 = some (.aload 0, 58, 0) := by decide +kernel
theorem f22_58 : z_fetch 22 58 = some (.instanceof 4, 61, 2) := by decide +kernel
theorem f22_61 : z_fetch 22 61 = some (.iload 4, 63, 0) := by decide +kernel
theorem f22_63 : z_fetch 22 63 = some (.iaload, 64, 0) := by decide +kernel
theorem f22_64 : z_fetch 22 64 = some (.istore 3, 65, 0) := by decide +kernel
theorem f22_65 : z_fetch 22 65 = some (.iinc 4 1, 68, 0) := by decide +kernel
theorem f22_68 : z_fetch 22 68 = some (.goto 0, 71, 5) := by decide +kernel
theorem f22_71 : z_fetch 22 71 = some (.iconst 0, 72, 0) := by decide +kernel
theorem f22_72 : z_fetch 22 72 = some (.ireturn, 73, 1) := by decide +kernel
theorem f23_0 : z_fetch 23 0 = some (.aload 0, 1, 0) := by decide +kernel
theorem f23_1 : z_fetch 23 1 = some (.monitorenter, 4, 0) := by decide +kernel
theorem f23_4 : z_fetch 23 4 = some (.aload 0, 5, 0) := by decide +kernel
theorem f23_5 : z_fetch 23 5 = some (.iconst 400, 8, 0) := by decide +kernel
theorem f23_8 : z_fetch 23 8 = some (.newarray .int, 10, 0) := by decide +kernel
theorem f23_10 : z_fetch 23 10 = some (.putstatic 5, 13, 1) := by decide +kernel
theorem f23_13 : z_fetch 23 13 = some (.aload 0, 14, 0) := by decide +kernel
theorem f23_14 : z_fetch 23 14 = some (.iconst 12, 16, 0) := by decide +kernel
theorem f23_16 : z_fetch 23 16 = some (.newarray .int, 18, 0) := by decide +kernel
theorem f23_18 : z_fetch 23 18 = some (.putstatic 5, 21, 3) := by decide +kernel
theorem f23_21 : z_fetch 23 21 = some (.aload 0, 22, 0) := by decide +kernel
theorem f23_22 : z_fetch 23 22 = some (.iconst 12, 24, 0) := by decide +kernel
theorem f23_24 : z_fetch 23 24 = some (.newarray .int, 26, 0) := by decide +kernel
theorem f23_26 : z_fetch 23 26 = some (.putstatic 5, 29, 4) := by decide +kernel
theorem f23_29 : z_fetch 23 29 = some (.aload 0, 30, 0) := by decide +kernel
theorem f23_30 : z_fetch 23 30 = some (.aload 1, 31, 0) := by decide +kernel
theorem f23_31 : z_fetch 23 31 = some (.putstatic 5, 34, 0) := by decide +kernel
theorem f23_34 : z_fetch 23 34 = some (.return_, 35, 0) := by decide +kernel
theorem f24_0 : z_fetch 24 0 = some (.aload 0, 1, 0) := by decide +kernel
theorem f24_1 : z_fetch 24 1 = some (.iconst 0, 2, 0) := by decide +kernel
theorem f24_2 : z_fetch 24 2 = some (.putfield 5, 5, 2) := by decide +kernel
theorem f24_5 : z_fetch 24 5 = some (.aload 0, 6, 0) := by decide +kernel
theorem f24_6 : z_fetch 24 6 = some (.iconst 0, 7, 0) := by decide +kernel
theorem f24_7 : z_fetch 24 7 = some (.putfield 5, 10, 5) := by decide +kernel
theorem f24_10 : z_fetch 24 10 = some (.aload 0, 11, 0) := by decide +kernel
theorem f24_11 : z_fetch 24 11 = some (.iconst 0, 12, 0) := by decide +kernel
theorem f24_12 : z_fetch 24 12 = some (.putfield 5, 15, 6) := by decide +kernel
theorem f24_15 : z_fetch 24 15 = some (.aload 0, 16, 0) := by decide +kernel
theorem f24_16 : z_fetch 24 16 = some (.instanceof 5, 19, 0) := by decide +kernel
theorem f24_19 : z_fetch 24 19 = some (.invokevirtual 48, 22, 0) := by decide +kernel
theorem f24_22 : z_fetch 24 22 = some (.iconst 1, 23, 0) := by decide +kernel
theorem f24_23 : z_fetch 24 23 = some (.istore 1, 24, 0) := by decide +kernel
theorem f24_24 : z_fetch 24 24 = some (.iconst 0, 25, 0) := by decide +kernel
theorem f24_25 : z_fetch 24 25 = some (.istore 2, 26, 0) := by decide +kernel
theorem f24_26 : z_fetch 24 26 = some (.iload 2, 27, 0) := by decide +kernel
theorem f24_27 : z_fetch 24 27 = some (.iconst 400, 30, 0) := by decide +kernel
theorem f24_30 : z_fetch 24 30 = some (.if_icmp .ge 0, 33, 154) := by decide +kernel
theorem f24_33 : z_fetch 24 33 = some (.iload 1, 34, 0) := by decide +kernel
theorem f24_34 : z_fetch 24 34 = some (.ifCond .eq 0, 37, 154) := by decide +kernel
theorem f24_37 : z_fetch 24 37 = some (.aload 0, 38, 0) := by decide +kernel
theorem f24_38 : z_fetch 24 38 = some (.instanceof 5, 41, 0) := by decide +kernel
theorem f24_41 : z_fetch 24 41 = some (.ldc 0, 43, 0) := by decide +kernel
theorem f24_43 : z_fetch 24 43 = some (.invokevirtual 54, 46, 0) := by decide +kernel
theorem f24_46 : z_fetch 24 46 = some (.istore 3, 47, 0) := by decide +kernel
theorem f24_47 : z_fetch 24 47 = some (.iload 3, 48, 0) := by decide +kernel
theorem f24_48 : z_fetch 24 48 = some (.ifCond .ne 0, 51, 62) := by decide +kernel
theorem f24_51 : z_fetch 24 51 = some (.aload 0, 52, 0) := by decide +kernel
theorem f24_52 : z_fetch 24 52 = some (.instanceof 5, 55, 0) := by decide +kernel
theorem f24_55 : z_fetch 24 55 = some (.iconst 0, 56, 0) := by decide +kernel
theorem f24_56 : z_fetch 24 56 = some (.invokevirtual 55, 59, 0) := by decide +kernel
theorem f24_59 : z_fetch 24 59 = some (.goto 0, 62, 127) := by decide +kernel
theorem f24_62 : z_fetch 24 62 = some (.aload 0, 63, 0) := by decide +kernel
theorem f24_63 : z_fetch 24 63 = some (.getfield 5, 66, 5) := by decide +kernel
theorem f24_66 : z_fetch 24 66 = some (.iconst 12, 68, 0) := by decide +kernel
theorem f24_68 : z_fetch 24 68 = some (.if_icmp .lt 0, 71, 82) := by decide +kernel
theorem f24_71 : z_fetch 24 71 = some (.aload 0, 72, 0) := by decide +kernel
theorem f24_72 : z_fetch 24 72 = some (.instanceof 5, 75, 0) := by decide +kernel
theorem f24_75 : z_fetch 24 75 = some (.iconst 4, 76, 0) := by decide +kernel
theorem f24_76 : z_fetch 24 76 = some (.invokevirtual 55, 79, 0) := by decide +kernel
theorem f24_79 : z_fetch 24 79 = some (.goto 0, 82, 127) := by decide +kernel
theorem f24_82 : z_fetch 24 82 = some (.aload 0, 83, 0) := by decide +kernel
theorem f24_83 : z_fetch 24 83 = some (.instanceof 5, 86, 0) := by decide +kernel
theorem f24_86 : z_fetch 24 86 = some (.invokevirtual 49, 89, 0) := by decide +kernel
theorem f24_89 : z_fetch 24 89 = some (.aload 0, 90, 0) := by decide +kernel
theorem f24_90 : z_fetch 24 90 = some (.iconst 0, 91, 0) := by decide +kernel
theorem f24_91 : z_fetch 24 91 = some (.invokevirtual 25, 94, 0) := by decide +kernel
theorem f24_94 : z_fetch 24 94 = some (.aload 0, 95, 0) := by decide +kernel
theorem f24_95 : z_fetch 24 95 = some (.instanceof 5, 98, 3) := by decide +kernel
theorem f24_98 : z_fetch 24 98 = some (.aload 0, 99, 0) := by decide +kernel
theorem f24_99 : z_fetch 24 99 = some (.getfield 5, 102, 5) := by decide +kernel
theorem f24_102 : z_fetch 24 102 = some (.iload 3, 103, 0) := by decide +kernel
theorem f24_103 : z_fetch 24 103 = some (.iastore, 104, 0) := by decide +kernel
theorem f24_104 : z_fetch 24 104 = some (.aload 0, 105, 0) := by decide +kernel
theorem f24_105 : z_fetch 24 105 = some (.instanceof 5, 108, 4) := by decide +kernel
theorem f24_108 : z_fetch 24 108 = some (.aload 0, 109, 0) := by decide +kernel
theorem f24_109 : z_fetch 24 109 = some (.getfield 5, 112, 5) := by decide +kernel
theorem f24_112 : z_fetch 24 112 = some (.aload 0, 113, 0) := by decide +kernel
theorem f24_113 : z_fetch 24 113 = some (.getfield 5, 116, 2) := by decide +kernel
theorem f24_116 : z_fetch 24 116 = some (.iastore, 117, 0) := by decide +kernel
theorem f24_117 : z_fetch 24 117 = some (.aload 0, 118, 0) := by decide +kernel
theorem f24_118 : z_fetch 24 118 = some (.dup, 119, 0) := by decide +kernel
theorem f24_119 : z_fetch 24 119 = some (.getfield 5, 122, 5) := by decide +kernel
theorem f24_122 : z_fetch 24 122 = some (.iconst 1, 123, 0) := by decide +kernel
theorem f24_123 : z_fetch 24 123 = some (.iadd, 124, 0) := by decide +kernel
theorem f24_124 : z_fetch 24 124 = some (.putfield 5, 127, 5) := by decide +kernel
theorem f24_127 : z_fetch 24 127 = some (.aload 0, 128, 0) := by decide +kernel
theorem f24_128 : z_fetch 24 128 = some (.instanceof 5, 131, 0) := by decide +kernel
theorem f24_131 : z_fetch 24 131 = some (.iconst 59, 133, 0) := by decide +kernel
theorem f24_133 : z_fetch 24 133 = some (.invokevirtual 52, 136, 0) := by decide +kernel
theorem f24_136 : z_fetch 24 136 = some (.istore 1, 137, 0) := by decide +kernel
theorem f24_137 : z_fetch 24 137 = some (.iload 1, 138, 0) := by decide +kernel
theorem f24_138 : z_fetch 24 138 = some (.ifCond .eq 0, 141, 148) := by decide +kernel
theorem f24_141 : z_fetch 24 141 = some (.aload 0, 142, 0) := by decide +kernel
theorem f24_142 : z_fetch 24 142 = some (.instanceof 5, 145, 0) := by decide +kernel
theorem f24_145 : z_fetch 24 145 = some (.invokevirtual 49, 148, 0) := by decide +kernel
theorem f24_148 : z_fetch 24 148 = some (.iinc 2 1, 151, 0) := by decide +kernel
theorem f24_151 : z_fetch 24 151 = some (.goto 0, 154, 26) := by decide +kernel
theorem f24_154 : z_fetch 24 154 = some (.aload 0, 155, 0) := by decide +kernel
theorem f24_155 : z_fetch 24 155 = some (.instanceof 5, 158, 0) := by decide +kernel
theorem f24_158 : z_fetch 24 158 = some (.invokevirtual 50, 161, 0) := by decide +kernel
theorem f24_161 : z_fetch 24 161 = some (.ifCond .ne 0, 164, 172) := by decide +kernel
theorem f24_164 : z_fetch 24 164 = some (.aload 0, 165, 0) := by decide +kernel
theorem f24_165 : z_fetch 24 165 = some (.instanceof 5, 168, 0) := by decide +kernel
theorem f24_168 : z_fetch 24 168 = some (.iconst 0, 169, 0) := by decide +kernel
theorem f24_169 : z_fetch 24 169 = some (.invokevirtual 55, 172, 0) := by decide +kernel
theorem f24_172 : z_fetch 24 172 = some (.aload 0, 173, 0) := by decide +kernel
theorem f24_173 : z_fetch 24 173 = some (.instanceof 5, 176, 0) := by decide +kernel
theorem f24_176 : z_fetch 24 176 = some (.getfield 7, 179, 7) := by decide +kernel
theorem f24_179 : z_fetch 24 179 = some (.ifCond .eq 0, 182, 184) := by decide +kernel
theorem f24_182 : z_fetch 24 182 = some (.aconst_null, 183, 0) := by decide +kernel
theorem f24_183 : z_fetch 24 183 = some (.areturn, 184, 0) := by decide +kernel
theorem f24_184 : z_fetch 24 184 = some (.aload 0, 185, 0) := by decide +kernel
theorem f24_185 : z_fetch 24 185 = some (.instanceof 5, 188, 1) := by decide +kernel
theorem f24_188 : z_fetch 24 188 = some (.aload 0, 189, 0) := by decide +kernel
theorem f24_189 : z_fetch 24 189 = some (.getfield 5, 192, 2) := by decide +kernel
theorem f24_192 : z_fetch 24 192 = some (.invokestatic 213, 195, 0) := by decide +kernel
theorem f24_195 : z_fetch 24 195 = some (.astore 2, 196, 0) := by decide +kernel
theorem f24_196 : z_fetch 24 196 = some (.new 4, 199, 0) := by decide +kernel
theorem f24_199 : z_fetch 24 199 = some (.dup, 200, 0) := by decide +kernel
theorem f24_200 : z_fetch 24 200 = some (.aload 2, 201, 0) := by decide +kernel
theorem f24_201 : z_fetch 24 201 = some (.aload 0, 202, 0) := by decide +kernel
theorem f24_202 : z_fetch 24 202 = some (.instanceof 5, 205, 3) := by decide +kernel
theorem f24_205 : z_fetch 24 205 = some (.aload 0, 206, 0) := by decide +kernel
theorem f24_206 : z_fetch 24 206 = some (.getfield 5, 209, 5) := by decide +kernel
theorem f24_209 : z_fetch 24 209 = some (.invokestatic 213, 212, 0) := by decide +kernel
theorem f24_212 : z_fetch 24 212 = some (.aload 0, 213, 0) := by decide +kernel
theorem f24_213 : z_fetch 24 213 = some (.instanceof 5, 216, 4) := by decide +kernel
theorem f24_216 : z_fetch 24 216 = some (.aload 0, 217, 0) := by decide +kernel
theorem f24_217 : z_fetch 24 217 = some (.getfield 5, 220, 5) := by decide +kernel
theorem f24_220 : z_fetch 24 220 = some (.invokestatic 213, 223, 0) := by decide +kernel
theorem f24_223 : z_fetch 24 223 = some (.invokespecial 21, 226, 0) := by decide +kernel
theorem f24_226 : z_fetch 24 226 = some (.areturn, 227, 0) := by decide +kernel
theorem f25_0 : z_fetch 25 0 = some (.iconst 1, 1, 0) := by decide +kernel
theorem f25_1 : z_fetch 25 1 = some (.istore 2, 2, 0) := by decide +kernel
theorem f25_2 : z_fetch 25 2 = some (.iconst 0, 3, 0) := by decide +kernel
theorem f25_3 : z_fetch 25 3 = some (.istore 3, 4, 0) := by decide +kernel
theorem f25_4 : z_fetch 25 4 = some (.iload 3, 5, 0) := by decide +kernel
theorem f25_5 : z_fetch 25 5 = some (.iconst 400, 8, 0) := by decide +kernel
theorem f25_8 : z_fetch 25 8 = some (.if_icmp .ge 0, 11, 104) := by decide +kernel
theorem f25_11 : z_fetch 25 11 = some (.iload 2, 12, 0) := by decide +kernel
theorem f25_12 : z_fetch 25 12 = some (.ifCond .eq 0, 15, 104) := by decide +kernel
theorem f25_15 : z_fetch 25 15 = some (.aload 0, 16, 0) := by decide +kernel
theorem f25_16 : z_fetch 25 16 = some (.iload 1, 17, 0) := by decide +kernel
theorem f25_17 : z_fetch 25 17 = some (.invokevirtual 26, 20, 0) := by decide +kernel
theorem f25_20 : z_fetch 25 20 = some (.iconst 0, 21, 0) := by decide +kernel
theorem f25_21 : z_fetch 25 21 = some (.istore 4, 23, 0) := by decide +kernel
theorem f25_23 : z_fetch 25 23 = some (.iload 4, 25, 0) := by decide +kernel
theorem f25_25 : z_fetch 25 25 = some (.iconst 400, 28, 0) := by decide +kernel
theorem f25_28 : z_fetch 25 28 = some (.if_icmp .ge 0, 31, 67) := by decide +kernel
theorem f25_31 : z_fetch 25 31 = some (.aload 0, 32, 0) := by decide +kernel
theorem f25_32 : z_fetch 25 32 = some (.instanceof 5, 35, 0) := by decide +kernel
theorem f25_35 : z_fetch 25 35 = some (.ldc 1, 37, 0) := by decide +kernel
theorem f25_37 : z_fetch 25 37 = some (.invokevirtual 53, 40, 0) := by decide +kernel
theorem f25_40 : z_fetch 25 40 = some (.ifCond .eq 0, 43, 67) := by decide +kernel
theorem f25_43 : z_fetch 25 43 = some (.aload 0, 44, 0) := by decide +kernel
theorem f25_44 : z_fetch 25 44 = some (.instanceof 5, 47, 0) := by decide +kernel
theorem f25_47 : z_fetch 25 47 = some (.invokevirtual 49, 50, 0) := by decide +kernel
theorem f25_50 : z_fetch 25 50 = some (.aload 0, 51, 0) := by decide +kernel
theorem f25_51 : z_fetch 25 51 = some (.iload 1, 52, 0) := by decide +kernel
theorem f25_52 : z_fetch 25 52 = some (.invokevirtual 26, 55, 0) := by decide +kernel
theorem f25_55 : z_fetch 25 55 = some (.aload 0, 56, 0) := by decide +kernel
theorem f25_56 : z_fetch 25 56 = some (.iconst (-19), 58, 0) := by decide +kernel
theorem f25_58 : z_fetch 25 58 = some (.invokevirtual 33, 61, 0) := by decide +kernel
theorem f25_61 : z_fetch 25 61 = some (.iinc 4 1, 64, 0) := by decide +kernel
theorem f25_64 : z_fetch 25 64 = some (.goto 0, 67, 23) := by decide +kernel
theorem f25_67 : z_fetch 25 67 = some (.iload 3, 68, 0) := by decide +kernel
theorem f25_68 : z_fetch 25 68 = some (.ifCond .le 0, 71, 77) := by decide +kernel
theorem f25_71 : z_fetch 25 71 = some (.aload 0, 72, 0) := by decide +kernel
theorem f25_72 : z_fetch 25 72 = some (.iconst (-20), 74, 0) := by decide +kernel
theorem f25_74 : z_fetch 25 74 = some (.invokevirtual 33, 77, 0) := by decide +kernel
theorem f25_77 : z_fetch 25 77 = some (.aload 0, 78, 0) := by decide +kernel
theorem f25_78 : z_fetch 25 78 = some (.instanceof 5, 81, 0) := by decide +kernel
theorem f25_81 : z_fetch 25 81 = some (.ldc 2, 83, 0) := by decide +kernel
theorem f25_83 : z_fetch 25 83 = some (.invokevirtual 53, 86, 0) := by decide +kernel
theorem f25_86 : z_fetch 25 86 = some (.istore 2, 87, 0) := by decide +kernel
theorem f25_87 : z_fetch 25 87 = some (.iload 2, 88, 0) := by decide +kernel
theorem f25_88 : z_fetch 25 88 = some (.ifCond .eq 0, 91, 98) := by decide +kernel
theorem f25_91 : z_fetch 25 91 = some (.aload 0, 92, 0) := by decide +kernel
theorem f25_92 : z_fetch 25 92 = some (.instanceof 5, 95, 0) := by decide +kernel
theorem f25_95 : z_fetch 25 95 = some (.invokevirtual 49, 98, 0) := by decide +kernel
theorem f25_98 : z_fetch 25 98 = some (.iinc 3 1, 101, 0) := by decide +kernel
theorem f25_101 : z_fetch 25 101 = some (.goto 0, 104, 4) := by decide +kernel
theorem f25_104 : z_fetch 25 104 = some (.return_, 105, 0) := by decide +kernel
theorem f26_0 : z_fetch 26 0 = some (.iload 1, 1, 0) := by decide +kernel
theorem f26_1 : z_fetch 26 1 = some (.istore 2, 2, 0) := by decide +kernel
theorem f26_2 : z_fetch 26 2 = some (.iload 2, 3, 0) := by decide +kernel
theorem f26_3 : z_fetch 26 3 = some (.iconst 10, 5, 0) := by decide +kernel
theorem f26_5 : z_fetch 26 5 = some (.if_icmp .ge 0, 8, 33) := by decide +kernel
theorem f26_8 : z_fetch 26 8 = some (.aload 0, 9, 0) := by decide +kernel
theorem f26_9 : z_fetch 26 9 = some (.instanceof 5, 12, 0) := by decide +kernel
theorem f26_12 : z_fetch 26 12 = some (.ldc 3, 14, 0) := by decide +kernel
theorem f26_14 : z_fetch 26 14 = some (.invokevirtual 53, 17, 0) := by decide +kernel
theorem f26_17 : z_fetch 26 17 = some (.ifCond .eq 0, 20, 33) := by decide +kernel
theorem f26_20 : z_fetch 26 20 = some (.iinc 2 1, 23, 0) := by decide +kernel
theorem f26_23 : z_fetch 26 23 = some (.aload 0, 24, 0) := by decide +kernel
theorem f26_24 : z_fetch 26 24 = some (.instanceof 5, 27, 0) := by decide +kernel
theorem f26_27 : z_fetch 26 27 = some (.invokevirtual 49, 30, 0) := by decide +kernel
theorem f26_30 : z_fetch 26 30 = some (.goto 0, 33, 2) := by decide +kernel
theorem f26_33 : z_fetch 26 33 = some (.aload 0, 34, 0) := by decide +kernel
theorem f26_34 : z_fetch 26 34 = some (.instanceof 5, 37, 0) := by decide +kernel
theorem f26_37 : z_fetch 26 37 = some (.iconst 91, 39, 0) := by decide +kernel
theorem f26_39 : z_fetch 26 39 = some (.invokevirtual 52, 42, 0) := by decide +kernel
theorem f26_42 : z_fetch 26 42 = some (.istore 3, 43, 0) := by decide +kernel
theorem f26_43 : z_fetch 26 43 = some (.iload 2, 44, 0) := by decide +kernel
theorem f26_44 : z_fetch 26 44 = some (.iconst 10, 46, 0) := by decide +kernel
theorem f26_46 : z_fetch 26 46 = some (.if_icmp .lt 0, 49, 76) := by decide +kernel
theorem f26_49 : z_fetch 26 49 = some (.iload 3, 50, 0) := by decide +kernel
theorem f26_50 : z_fetch 26 50 = some (.ifCond .ne 0, 53, 65) := by decide +kernel
theorem f26_53 : z_fetch 26 53 = some (.aload 0, 54, 0) := by decide +kernel
theorem f26_54 : z_fetch 26 54 = some (.instanceof 5, 57, 0) := by decide +kernel
theorem f26_57 : z_fetch 26 57 = some (.ldc 3, 59, 0) := by decide +kernel
theorem f26_59 : z_fetch 26 59 = some (.invokevirtual 53, 62, 0) := by decide +kernel
theorem f26_62 : z_fetch 26 62 = some (.ifCond .eq 0, 65, 76) := by decide +kernel
theorem f26_65 : z_fetch 26 65 = some (.aload 0, 66, 0) := by decide +kernel
theorem f26_66 : z_fetch 26 66 = some (.instanceof 5, 69, 0) := by decide +kernel
theorem f26_69 : z_fetch 26 69 = some (.iconst 2, 70, 0) := by decide +kernel
theorem f26_70 : z_fetch 26 70 = some (.invokevirtual 55, 73, 0) := by decide +kernel
theorem f26_73 : z_fetch 26 73 = some (.goto 0, 76, 161) := by decide +kernel
theorem f26_76 : z_fetch 26 76 = some (.iload 3, 77, 0) := by decide +kernel
theorem f26_77 : z_fetch 26 77 = some (.ifCond .eq 0, 80, 127) := by decide +kernel
theorem f26_80 : z_fetch 26 80 = some (.aload 0, 81, 0) := by decide +kernel
theorem f26_81 : z_fetch 26 81 = some (.instanceof 5, 84, 0) := by decide +kernel
theorem f26_84 : z_fetch 26 84 = some (.invokevirtual 49, 87, 0) := by decide +kernel
theorem f26_87 : z_fetch 26 87 = some (.aload 0, 88, 0) := by decide +kernel
theorem f26_88 : z_fetch 26 88 = some (.iload 2, 89, 0) := by decide +kernel
theorem f26_89 : z_fetch 26 89 = some (.iconst 1, 90, 0) := by decide +kernel
theorem f26_90 : z_fetch 26 90 = some (.iadd, 91, 0) := by decide +kernel
theorem f26_91 : z_fetch 26 91 = some (.invokevirtual 25, 94, 0) := by decide +kernel
theorem f26_94 : z_fetch 26 94 = some (.aload 0, 95, 0) := by decide +kernel
theorem f26_95 : z_fetch 26 95 = some (.instanceof 5, 98, 0) := by decide +kernel
theorem f26_98 : z_fetch 26 98 = some (.iconst 93, 100, 0) := by decide +kernel
theorem f26_100 : z_fetch 26 100 = some (.invokevirtual 52, 103, 0) := by decide +kernel
theorem f26_103 : z_fetch 26 103 = some (.ifCond .eq 0, 106, 116) := by decide +kernel
theorem f26_106 : z_fetch 26 106 = some (.aload 0, 107, 0) := by decide +kernel
theorem f26_107 : z_fetch 26 107 = some (.instanceof 5, 110, 0) := by decide +kernel
theorem f26_110 : z_fetch 26 110 = some (.invokevirtual 49, 113, 0) := by decide +kernel
theorem f26_113 : z_fetch 26 113 = some (.goto 0, 116, 161) := by decide +kernel
theorem f26_116 : z_fetch 26 116 = some (.aload 0, 117, 0) := by decide +kernel
theorem f26_117 : z_fetch 26 117 = some (.instanceof 5, 120, 0) := by decide +kernel
theorem f26_120 : z_fetch 26 120 = some (.iconst 0, 121, 0) := by decide +kernel
theorem f26_121 : z_fetch 26 121 = some (.invokevirtual 55, 124, 0) := by decide +kernel
theorem f26_124 : z_fetch 26 124 = some (.goto 0, 127, 161) := by decide +kernel
theorem f26_127 : z_fetch 26 127 = some (.aload 0, 128, 0) := by decide +kernel
theorem f26_128 : z_fetch 26 128 = some (.invokevirtual 27, 131, 0) := by decide +kernel
theorem f26_131 : z_fetch 26 131 = some (.aload 0, 132, 0) := by decide +kernel
theorem f26_132 : z_fetch 26 132 = some (.invokevirtual 30, 135, 0) := by decide +kernel
theorem f26_135 : z_fetch 26 135 = some (.istore 4, 137, 0) := by decide +kernel
theorem f26_137 : z_fetch 26 137 = some (.aload 0, 138, 0) := by decide +kernel
theorem f26_138 : z_fetch 26 138 = some (.iload 4, 140, 0) := by decide +kernel
theorem f26_140 : z_fetch 26 140 = some (.ifCond .eq 0, 143, 147) := by decide +kernel
theorem f26_143 : z_fetch 26 143 = some (.iconst 1, 144, 0) := by decide +kernel
theorem f26_144 : z_fetch 26 144 = some (.goto 0, 147, 148) := by decide +kernel
theorem f26_147 : z_fetch 26 147 = some (.iconst 0, 148, 0) := by decide +kernel
theorem f26_148 : z_fetch 26 148 = some (.invokevirtual 29, 151, 0) := by decide +kernel
theorem f26_151 : z_fetch 26 151 = some (.aload 0, 152, 0) := by decide +kernel
theorem f26_152 : z_fetch 26 152 = some (.invokevirtual 27, 155, 0) := by decide +kernel
theorem f26_155 : z_fetch 26 155 = some (.aload 0, 156, 0) := by decide +kernel
theorem f26_156 : z_fetch 26 156 = some (.iload 4, 158, 0) := by decide +kernel
theorem f26_158 : z_fetch 26 158 = some (.invokevirtual 33, 161, 0) := by decide +kernel
theorem f26_161 : z_fetch 26 161 = some (.iload 2, 162, 0) := by decide +kernel
theorem f26_162 : z_fetch 26 162 = some (.iload 1, 163, 0) := by decide +kernel
theorem f26_163 : z_fetch 26 163 = some (.isub, 164, 0) := by decide +kernel
theorem f26_164 : z_fetch 26 164 = some (.iconst 2, 165, 0) := by decide +kernel
theorem f26_165 : z_fetch 26 165 = some (.irem, 166, 0) := by decide +kernel
theorem f26_166 : z_fetch 26 166 = some (.ifCond .eq 0, 169, 175) := by decide +kernel
theorem f26_169 : z_fetch 26 169 = some (.aload 0, 170, 0) := by decide +kernel
theorem f26_170 : z_fetch 26 170 = some (.iconst (-21), 172, 0) := by decide +kernel
theorem f26_172 : z_fetch 26 172 = some (.invokevirtual 33, 175, 0) := by decide +kernel
theorem f26_175 : z_fetch 26 175 = some (.return_, 176, 0) := by decide +kernel
theorem f27_0 : z_fetch 27 0 = some (.iconst 0, 1, 0) := by decide +kernel
theorem f27_1 : z_fetch 27 1 = some (.istore 1, 2, 0) := by decide +kernel
theorem f27_2 : z_fetch 27 2 = some (.iconst 1, 3, 0) := by decide +kernel
theorem f27_3 : z_fetch 27 3 = some (.istore 2, 4, 0) := by decide +kernel
theorem f27_4 : z_fetch 27 4 = some (.iconst 0, 5, 0) := by decide +kernel
theorem f27_5 : z_fetch 27 5 = some (.istore 3, 6, 0) := by decide +kernel
theorem f27_6 : z_fetch 27 6 = some (.iload 3, 7, 0) := by decide +kernel
theorem f27_7 : z_fetch 27 7 = some (.iconst 400, 10, 0) := by decide +kernel
theorem f27_10 : z_fetch 27 10 = some (.if_icmp .ge 0, 13, 113) := by decide +kernel
theorem f27_13 : z_fetch 27 13 = some (.iload 2, 14, 0) := by decide +kernel
theorem f27_14 : z_fetch 27 14 = some (.ifCond .eq 0, 17, 113) := by decide +kernel
theorem f27_17 : z_fetch 27 17 = some (.aload 0, 18, 0) := by decide +kernel
theorem f27_18 : z_fetch 27 18 = some (.invokevirtual 28, 21, 0) := by decide +kernel
theorem f27_21 : z_fetch 27 21 = some (.aload 0, 22, 0) := by decide +kernel
theorem f27_22 : z_fetch 27 22 = some (.invokevirtual 31, 25, 0) := by decide +kernel
theorem f27_25 : z_fetch 27 25 = some (.istore 4, 27, 0) := by decide +kernel
theorem f27_27 : z_fetch 27 27 = some (.iconst 0, 28, 0) := by decide +kernel
theorem f27_28 : z_fetch 27 28 = some (.istore 5, 30, 0) := by decide +kernel
theorem f27_30 : z_fetch 27 30 = some (.iload 5, 32, 0) := by decide +kernel
theorem f27_32 : z_fetch 27 32 = some (.iconst 400, 35, 0) := by decide +kernel
theorem f27_35 : z_fetch 27 35 = some (.if_icmp .ge 0, 38, 72) := by decide +kernel
theorem f27_38 : z_fetch 27 38 = some (.iload 4, 40, 0) := by decide +kernel
theorem f27_40 : z_fetch 27 40 = some (.ifCond .eq 0, 43, 72) := by decide +kernel
theorem f27_43 : z_fetch 27 43 = some (.aload 0, 44, 0) := by decide +kernel
theorem f27_44 : z_fetch 27 44 = some (.instanceof 5, 47, 0) := by decide +kernel
theorem f27_47 : z_fetch 27 47 = some (.invokevirtual 49, 50, 0) := by decide +kernel
theorem f27_50 : z_fetch 27 50 = some (.aload 0, 51, 0) := by decide +kernel
theorem f27_51 : z_fetch 27 51 = some (.invokevirtual 28, 54, 0) := by decide +kernel
theorem f27_54 : z_fetch 27 54 = some (.aload 0, 55, 0) := by decide +kernel
theorem f27_55 : z_fetch 27 55 = some (.iload 4, 57, 0) := by decide +kernel
theorem f27_57 : z_fetch 27 57 = some (.invokevirtual 33, 60, 0) := by decide +kernel
theorem f27_60 : z_fetch 27 60 = some (.aload 0, 61, 0) := by decide +kernel
theorem f27_61 : z_fetch 27 61 = some (.invokevirtual 31, 64, 0) := by decide +kernel
theorem f27_64 : z_fetch 27 64 = some (.istore 4, 66, 0) := by decide +kernel
theorem f27_66 : z_fetch 27 66 = some (.iinc 5 1, 69, 0) := by decide +kernel
theorem f27_69 : z_fetch 27 69 = some (.goto 0, 72, 30) := by decide +kernel
theorem f27_72 : z_fetch 27 72 = some (.iload 1, 73, 0) := by decide +kernel
theorem f27_73 : z_fetch 27 73 = some (.ifCond .eq 0, 76, 81) := by decide +kernel
theorem f27_76 : z_fetch 27 76 = some (.aload 0, 77, 0) := by decide +kernel
theorem f27_77 : z_fetch 27 77 = some (.iload 1, 78, 0) := by decide +kernel
theorem f27_78 : z_fetch 27 78 = some (.invokevirtual 33, 81, 0) := by decide +kernel
theorem f27_81 : z_fetch 27 81 = some (.aload 0, 82, 0) := by decide +kernel
theorem f27_82 : z_fetch 27 82 = some (.invokevirtual 32, 85, 0) := by decide +kernel
theorem f27_85 : z_fetch 27 85 = some (.istore 1, 86, 0) := by decide +kernel
theorem f27_86 : z_fetch 27 86 = some (.iload 1, 87, 0) := by decide +kernel
theorem f27_87 : z_fetch 27 87 = some (.ifCond .eq 0, 90, 94) := by decide +kernel
theorem f27_90 : z_fetch 27 90 = some (.iconst 1, 91, 0) := by decide +kernel
theorem f27_91 : z_fetch 27 91 = some (.goto 0, 94, 95) := by decide +kernel
theorem f27_94 : z_fetch 27 94 = some (.iconst 0, 95, 0) := by decide +kernel
theorem f27_95 : z_fetch 27 95 = some (.istore 2, 96, 0) := by decide +kernel
theorem f27_96 : z_fetch 27 96 = some (.iload 2, 97, 0) := by decide +kernel
theorem f27_97 : z_fetch 27 97 = some (.ifCond .eq 0, 100, 107) := by decide +kernel
theorem f27_100 : z_fetch 27 100 = some (.aload 0, 101, 0) := by decide +kernel
theorem f27_101 : z_fetch 27 101 = some (.instanceof 5, 104, 0) := by decide +kernel
theorem f27_104 : z_fetch 27 104 = some (.invokevirtual 49, 107, 0) := by decide +kernel
theorem f27_107 : z_fetch 27 107 = some (.iinc 3 1, 110, 0) := by decide +kernel
theorem f27_110 : z_fetch 27 110 = some (.goto 0, 113, 6) := by decide +kernel
theorem f27_113 : z_fetch 27 113 = some (.return_, 114, 0) := by decide +kernel
theorem f28_0 : z_fetch 28 0 = some (.aload 0, 1, 0) := by decide +kernel
theorem f28_1 : z_fetch 28 1 = some (.instanceof 5, 4, 0) := by decide +kernel
theorem f28_4 : z_fetch 28 4 = some (.invokevirtual 51, 7, 0) := by decide +kernel
theorem f28_7 : z_fetch 28 7 = some (.istore 1, 8, 0) := by decide +kernel
theorem f28_8 : z_fetch 28 8 = some (.iload 1, 9, 0) := by decide +kernel
theorem f28_9 : z_fetch 28 9 = some (.ifCond .eq 0, 12, 22) := by decide +kernel
theorem f28_12 : z_fetch 28 12 = some (.aload 0, 13, 0) := by decide +kernel
theorem f28_13 : z_fetch 28 13 = some (.instanceof 5, 16, 0) := by decide +kernel
theorem f28_16 : z_fetch 28 16 = some (.getfield 7, 19, 6) := by decide +kernel
theorem f28_19 : z_fetch 28 19 = some (.goto 0, 22, 32) := by decide +kernel
theorem f28_22 : z_fetch 28 22 = some (.aload 0, 23, 0) := by decide +kernel
theorem f28_23 : z_fetch 28 23 = some (.instanceof 5, 26, 0) := by decide +kernel
theorem f28_26 : z_fetch 28 26 = some (.ldc 4, 28, 0) := by decide +kernel
theorem f28_28 : z_fetch 28 28 = some (.invokevirtual 54, 31, 0) := by decide +kernel
theorem f28_31 : z_fetch 28 31 = some (.ineg, 32, 0) := by decide +kernel
theorem f28_32 : z_fetch 28 32 = some (.istore 2, 33, 0) := by decide +kernel
theorem f28_33 : z_fetch 28 33 = some (.iload 1, 34, 0) := by decide +kernel
theorem f28_34 : z_fetch 28 34 = some (.ifCond .eq 0, 37, 53) := by decide +kernel
theorem f28_37 : z_fetch 28 37 = some (.iload 2, 38, 0) := by decide +kernel
theorem f28_38 : z_fetch 28 38 = some (.iconst (-1), 39, 0) := by decide +kernel
theorem f28_39 : z_fetch 28 39 = some (.if_icmp .ne 0, 42, 53) := by decide +kernel
theorem f28_42 : z_fetch 28 42 = some (.aload 0, 43, 0) := by decide +kernel
theorem f28_43 : z_fetch 28 43 = some (.instanceof 5, 46, 0) := by decide +kernel
theorem f28_46 : z_fetch 28 46 = some (.iconst 1, 47, 0) := by decide +kernel
theorem f28_47 : z_fetch 28 47 = some (.invokevirtual 55, 50, 0) := by decide +kernel
theorem f28_50 : z_fetch 28 50 = some (.goto 0, 53, 75) := by decide +kernel
theorem f28_53 : z_fetch 28 53 = some (.aload 0, 54, 0) := by decide +kernel
theorem f28_54 : z_fetch 28 54 = some (.iload 1, 55, 0) := by decide +kernel
theorem f28_55 : z_fetch 28 55 = some (.ifCond .ne 0, 58, 62) := by decide +kernel
theorem f28_58 : z_fetch 28 58 = some (.iload 2, 59, 0) := by decide +kernel
theorem f28_59 : z_fetch 28 59 = some (.ifCond .eq 0, 62, 66) := by decide +kernel
theorem f28_62 : z_fetch 28 62 = some (.iconst 1, 63, 0) := by decide +kernel
theorem f28_63 : z_fetch 28 63 = some (.goto 0, 66, 67) := by decide +kernel
theorem f28_66 : z_fetch 28 66 = some (.iconst 0, 67, 0) := by decide +kernel
theorem f28_67 : z_fetch 28 67 = some (.invokevirtual 29, 70, 0) := by decide +kernel
theorem f28_70 : z_fetch 28 70 = some (.aload 0, 71, 0) := by decide +kernel
theorem f28_71 : z_fetch 28 71 = some (.iload 2, 72, 0) := by decide +kernel
theorem f28_72 : z_fetch 28 72 = some (.invokevirtual 33, 75, 0) := by decide +kernel
theorem f28_75 : z_fetch 28 75 = some (.return_, 76, 0) := by decide +kernel
theorem f29_0 : z_fetch 29 0 = some (.iload 1, 1, 0) := by decide +kernel
theorem f29_1 : z_fetch 29 1 = some (.ifCond .ne 0, 4, 15) := by decide +kernel
theorem f29_4 : z_fetch 29 4 = some (.aload 0, 5, 0) := by decide +kernel
theorem f29_5 : z_fetch 29 5 = some (.instanceof 5, 8, 0) := by decide +kernel
theorem f29_8 : z_fetch 29 8 = some (.iconst 0, 9, 0) := by decide +kernel
theorem f29_9 : z_fetch 29 9 = some (.invokevirtual 55, 12, 0) := by decide +kernel
theorem f29_12 : z_fetch 29 12 = some (.goto 0, 15, 52) := by decide +kernel
theorem f29_15 : z_fetch 29 15 = some (.aload 0, 16, 0) := by decide +kernel
theorem f29_16 : z_fetch 29 16 = some (.getfield 5, 19, 6) := by decide +kernel
theorem f29_19 : z_fetch 29 19 = some (.iconst 60, 21, 0) := by decide +kernel
theorem f29_21 : z_fetch 29 21 = some (.if_icmp .lt 0, 24, 35) := by decide +kernel
theorem f29_24 : z_fetch 29 24 = some (.aload 0, 25, 0) := by decide +kernel
theorem f29_25 : z_fetch 29 25 = some (.instanceof 5, 28, 0) := by decide +kernel
theorem f29_28 : z_fetch 29 28 = some (.iconst 3, 29, 0) := by decide +kernel
theorem f29_29 : z_fetch 29 29 = some (.invokevirtual 55, 32, 0) := by decide +kernel
theorem f29_32 : z_fetch 29 32 = some (.goto 0, 35, 52) := by decide +kernel
theorem f29_35 : z_fetch 29 35 = some (.aload 0, 36, 0) := by decide +kernel
theorem f29_36 : z_fetch 29 36 = some (.dup, 37, 0) := by decide +kernel
theorem f29_37 : z_fetch 29 37 = some (.getfield 5, 40, 6) := by decide +kernel
theorem f29_40 : z_fetch 29 40 = some (.iconst 1, 41, 0) := by decide +kernel
theorem f29_41 : z_fetch 29 41 = some (.iadd, 42, 0) := by decide +kernel
theorem f29_42 : z_fetch 29 42 = some (.putfield 5, 45, 6) := by decide +kernel
theorem f29_45 : z_fetch 29 45 = some (.aload 0, 46, 0) := by decide +kernel
theorem f29_46 : z_fetch 29 46 = some (.instanceof 5, 49, 0) := by decide +kernel
theorem f29_49 : z_fetch 29 49 = some (.invokevirtual 49, 52, 0) := by decide +kernel
theorem f29_52 : z_fetch 29 52 = some (.return_, 53, 0) := by decide +kernel
theorem f30_0 : z_fetch 30 0 = some (.aload 0, 1, 0) := by decide +kernel
theorem f30_1 : z_fetch 30 1 = some (.instanceof 5, 4, 0) := by decide +kernel
theorem f30_4 : z_fetch 30 4 = some (.iconst 60, 6, 0) := by decide +kernel
theorem f30_6 : z_fetch 30 6 = some (.invokevirtual 52, 9, 0) := by decide +kernel
theorem f30_9 : z_fetch 30 9 = some (.ifCond .eq 0, 12, 15) := by decide +kernel
theorem f30_12 : z_fetch 30 12 = some (.iconst (-14), 14, 0) := by decide +kernel
theorem f30_14 : z_fetch 30 14 = some (.ireturn, 15, 0) := by decide +kernel
theorem f30_15 : z_fetch 30 15 = some (.aload 0, 16, 0) := by decide +kernel
theorem f30_16 : z_fetch 30 16 = some (.instanceof 5, 19, 0) := by decide +kernel
theorem f30_19 : z_fetch 30 19 = some (.iconst 316, 22, 0) := by decide +kernel
theorem f30_22 : z_fetch 30 22 = some (.invokevirtual 52, 25, 0) := by decide +kernel
theorem f30_25 : z_fetch 30 25 = some (.ifCond .eq 0, 28, 31) := by decide +kernel
theorem f30_28 : z_fetch 30 28 = some (.iconst (-15), 30, 0) := by decide +kernel
theorem f30_30 : z_fetch 30 30 = some (.ireturn, 31, 0) := by decide +kernel
theorem f30_31 : z_fetch 30 31 = some (.aload 0, 32, 0) := by decide +kernel
theorem f30_32 : z_fetch 30 32 = some (.instanceof 5, 35, 0) := by decide +kernel
theorem f30_35 : z_fetch 30 35 = some (.iconst 61, 37, 0) := by decide +kernel
theorem f30_37 : z_fetch 30 37 = some (.invokevirtual 52, 40, 0) := by decide +kernel
theorem f30_40 : z_fetch 30 40 = some (.ifCond .eq 0, 43, 46) := by decide +kernel
theorem f30_43 : z_fetch 30 43 = some (.iconst (-16), 45, 0) := by decide +kernel
theorem f30_45 : z_fetch 30 45 = some (.ireturn, 46, 0) := by decide +kernel
theorem f30_46 : z_fetch 30 46 = some (.aload 0, 47, 0) := by decide +kernel
theorem f30_47 : z_fetch 30 47 = some (.instanceof 5, 50, 0) := by decide +kernel
theorem f30_50 : z_fetch 30 50 = some (.iconst 318, 53, 0) := by decide +kernel
theorem f30_53 : z_fetch 30 53 = some (.invokevirtual 52, 56, 0) := by decide +kernel
theorem f30_56 : z_fetch 30 56 = some (.ifCond .eq 0, 59, 62) := by decide +kernel
theorem f30_59 : z_fetch 30 59 = some (.iconst (-17), 61, 0) := by decide +kernel
theorem f30_61 : z_fetch 30 61 = some (.ireturn, 62, 0) := by decide +kernel
theorem f30_62 : z_fetch 30 62 = some (.aload 0, 63, 0) := by decide +kernel
theorem f30_63 : z_fetch 30 63 = some (.instanceof 5, 66, 0) := by decide +kernel
theorem f30_66 : z_fetch 30 66 = some (.iconst 62, 68, 0) := by decide +kernel
theorem f30_68 : z_fetch 30 68 = some (.invokevirtual 52, 71, 0) := by decide +kernel
theorem f30_71 : z_fetch 30 71 = some (.ifCond .eq 0, 74, 79) := by decide +kernel
theorem f30_74 : z_fetch 30 74 = some (.iconst (-18), 76, 0) := by decide +kernel
theorem f30_76 : z_fetch 30 76 = some (.goto 0, 79, 80) := by decide +kernel
theorem f30_79 : z_fetch 30 79 = some (.iconst 0, 80, 0) := by decide +kernel
theorem f30_80 : z_fetch 30 80 = some (.ireturn, 81, 0) := by decide +kernel
theorem f31_0 : z_fetch 31 0 = some (.aload 0, 1, 0) := by decide +kernel
theorem f31_1 : z_fetch 31 1 = some (.instanceof 5, 4, 0) := by decide +kernel
theorem f31_4 : z_fetch 31 4 = some (.iconst 42, 6, 0) := by decide +kernel
theorem f31_6 : z_fetch 31 6 = some (.invokevirtual 52, 9, 0) := by decide +kernel
theorem f31_9 : z_fetch 31 9 = some (.ifCond .eq 0, 12, 15) := by decide +kernel
theorem f31_12 : z_fetch 31 12 = some (.iconst (-12), 14, 0) := by decide +kernel
theorem f31_14 : z_fetch 31 14 = some (.ireturn, 15, 0) := by decide +kernel
theorem f31_15 : z_fetch 31 15 = some (.aload 0, 16, 0) := by decide +kernel
theorem f31_16 : z_fetch 31 16 = some (.instanceof 5, 19, 0) := by decide +kernel
theorem f31_19 : z_fetch 31 19 = some (.iconst 47, 21, 0) := by decide +kernel
theorem f31_21 : z_fetch 31 21 = some (.invokevirtual 52, 24, 0) := by decide +kernel
theorem f31_24 : z_fetch 31 24 = some (.ifCond .eq 0, 27, 32) := by decide +kernel
theorem f31_27 : z_fetch 31 27 = some (.iconst (-13), 29, 0) := by decide +kernel
theorem f31_29 : z_fetch 31 29 = some (.goto 0, 32, 33) := by decide +kernel
theorem f31_32 : z_fetch 31 32 = some (.iconst 0, 33, 0) := by decide +kernel
theorem f31_33 : z_fetch 31 33 = some (.ireturn, 34, 0) := by decide +kernel
theorem f32_0 : z_fetch 32 0 = some (.aload 0, 1, 0) := by decide +kernel
theorem f32_1 : z_fetch 32 1 = some (.instanceof 5, 4, 0) := by decide +kernel
theorem f32_4 : z_fetch 32 4 = some (.iconst 43, 6, 0) := by decide +kernel
theorem f32_6 : z_fetch 32 6 = some (.invokevirtual 52, 9, 0) := by decide +kernel
theorem f32_9 : z_fetch 32 9 = some (.ifCond .eq 0, 12, 15) := by decide +kernel
theorem f32_12 : z_fetch 32 12 = some (.iconst (-10), 14, 0) := by decide +kernel
theorem f32_14 : z_fetch 32 14 = some (.ireturn, 15, 0) := by decide +kernel
theorem f32_15 : z_fetch 32 15 = some (.aload 0, 16, 0) := by decide +kernel
theorem f32_16 : z_fetch 32 16 = some (.instanceof 5, 19, 0) := by decide +kernel
theorem f32_19 : z_fetch 32 19 = some (.iconst 45, 21, 0) := by decide +kernel
theorem f32_21 : z_fetch 32 21 = some (.invokevirtual 52, 24, 0) := by decide +kernel
theorem f32_24 : z_fetch 32 24 = some (.ifCond .eq 0, 27, 32) := by decide +kernel
theorem f32_27 : z_fetch 32 27 = some (.iconst (-11), 29, 0) := by decide +kernel
theorem f32_29 : z_fetch 32 29 = some (.goto 0, 32, 33) := by decide +kernel
theorem f32_32 : z_fetch 32 32 = some (.iconst 0, 33, 0) := by decide +kernel
theorem f32_33 : z_fetch 32 33 = some (.ireturn, 34, 0) := by decide +kernel
theorem f33_0 : z_fetch 33 0 = some (.aload 0, 1, 0) := by decide +kernel
theorem f33_1 : z_fetch 33 1 = some (.getfield 5, 4, 2) := by decide +kernel
theorem f33_4 : z_fetch 33 4 = some (.aload 0, 5, 0) := by decide +kernel
theorem f33_5 : z_fetch 33 5 = some (.instanceof 5, 8, 1) := by decide +kernel
theorem f33_8 : z_fetch 33 8 = some (.arraylength, 9, 0) := by decide +kernel
theorem f33_9 : z_fetch 33 9 = some (.if_icmp .ge 0, 12, 32) := by decide +kernel
theorem f33_12 : z_fetch 33 12 = some (.aload 0, 13, 0) := by decide +kernel
theorem f33_13 : z_fetch 33 13 = some (.instanceof 5, 16, 1) := by decide +kernel
theorem f33_16 : z_fetch 33 16 = some (.aload 0, 17, 0) := by decide +kernel
theorem f33_17 : z_fetch 33 17 = some (.getfield 5, 20, 2) := by decide +kernel
theorem f33_20 : z_fetch 33 20 = some (.iload 1, 21, 0) := by decide +kernel
theorem f33_21 : z_fetch 33 21 = some (.iastore, 22, 0) := by decide +kernel
theorem f33_22 : z_fetch 33 22 = some (.aload 0, 23, 0) := by decide +kernel
theorem f33_23 : z_fetch 33 23 = some (.dup, 24, 0) := by decide +kernel
theorem f33_24 : z_fetch 33 24 = some (.getfield 5, 27, 2) := by decide +kernel
theorem f33_27 : z_fetch 33 27 = some (.iconst 1, 28, 0) := by decide +kernel
theorem f33_28 : z_fetch 33 28 = some (.iadd, 29, 0) := by decide +kernel
theorem f33_29 : z_fetch 33 29 = some (.putfield 5, 32, 2) := by decide +kernel
theorem f33_32 : z_fetch 33 32 = some (.return_, 33, 0) := by decide +kernel
theorem f34_0 : z_fetch 34 0 = some (.aload 0, 1, 0) := by decide +kernel
theorem f34_1 : z_fetch 34 1 = some (.monitorenter, 4, 0) := by decide +kernel
theorem f34_4 : z_fetch 34 4 = some (.aload 0, 5, 0) := by decide +kernel
theorem f34_5 : z_fetch 34 5 = some (.aload 1, 6, 0) := by decide +kernel
theorem f34_6 : z_fetch 34 6 = some (.putstatic 6, 9, 0) := by decide +kernel
theorem f34_9 : z_fetch 34 9 = some (.aload 0, 10, 0) := by decide +kernel
theorem f34_10 : z_fetch 34 10 = some (.iconst (-1), 11, 0) := by decide +kernel
theorem f34_11 : z_fetch 34 11 = some (.putfield 6, 14, 3) := by decide +kernel
theorem f34_14 : z_fetch 34 14 = some (.aload 0, 15, 0) := by decide +kernel
theorem f34_15 : z_fetch 34 15 = some (.iconst 8, 17, 0) := by decide +kernel
theorem f34_17 : z_fetch 34 17 = some (.anewarray 17, 20, 0) := by decide +kernel
theorem f34_20 : z_fetch 34 20 = some (.putstatic 6, 23, 5) := by decide +kernel
theorem f34_23 : z_fetch 34 23 = some (.iconst 0, 24, 0) := by decide +kernel
theorem f34_24 : z_fetch 34 24 = some (.istore 2, 25, 0) := by decide +kernel
theorem f34_25 : z_fetch 34 25 = some (.iload 2, 26, 0) := by decide +kernel
theorem f34_26 : z_fetch 34 26 = some (.iconst 8, 28, 0) := by decide +kernel
theorem f34_28 : z_fetch 34 28 = some (.if_icmp .ge 0, 31, 50) := by decide +kernel
theorem f34_31 : z_fetch 34 31 = some (.aload 0, 32, 0) := by decide +kernel
theorem f34_32 : z_fetch 34 32 = some (.instanceof 6, 35, 5) := by decide +kernel
theorem f34_35 : z_fetch 34 35 = some (.iload 2, 36, 0) := by decide +kernel
theorem f34_36 : z_fetch 34 36 = some (.new 1, 39, 0) := by decide +kernel
theorem f34_39 : z_fetch 34 39 = some (.dup, 40, 0) := by decide +kernel
theorem f34_40 : z_fetch 34 40 = some (.invokespecial 8, 43, 0) := by decide +kernel
theorem f34_43 : z_fetch 34 43 = some (.aastore, 44, 0) := by decide +kernel
theorem f34_44 : z_fetch 34 44 = some (.iinc 2 1, 47, 0) := by decide +kernel
theorem f34_47 : z_fetch 34 47 = some (.goto 0, 50, 25) := by decide +kernel
theorem f34_50 : z_fetch 34 50 = some (.return_, 51, 0) := by decide +kernel
theorem f35_0 : z_fetch 35 0 = some (.aload 0, 1, 0) := by decide +kernel
theorem f35_1 : z_fetch 35 1 = some (.aload 1, 2, 0) := by decide +kernel
theorem f35_2 : z_fetch 35 2 = some (.putstatic 6, 5, 0) := by decide +kernel
theorem f35_5 : z_fetch 35 5 = some (.aload 0, 6, 0) := by decide +kernel
theorem f35_6 : z_fetch 35 6 = some (.iconst 0, 7, 0) := by decide +kernel
theorem f35_7 : z_fetch 35 7 = some (.putfield 6, 10, 1) := by decide +kernel
theorem f35_10 : z_fetch 35 10 = some (.aload 0, 11, 0) := by decide +kernel
theorem f35_11 : z_fetch 35 11 = some (.iconst 0, 12, 0) := by decide +kernel
theorem f35_12 : z_fetch 35 12 = some (.putfield 6, 15, 2) := by decide +kernel
theorem f35_15 : z_fetch 35 15 = some (.iconst 0, 16, 0) := by decide +kernel
theorem f35_16 : z_fetch 35 16 = some (.istore 2, 17, 0) := by decide +kernel
theorem f35_17 : z_fetch 35 17 = some (.iload 2, 18, 0) := by decide +kernel
theorem f35_18 : z_fetch 35 18 = some (.aload 0, 19, 0) := by decide +kernel
theorem f35_19 : z_fetch 35 19 = some (.instanceof 6, 22, 0) := by decide +kernel
theorem f35_22 : z_fetch 35 22 = some (.getfield 3, 25, 2) := by decide +kernel
theorem f35_25 : z_fetch 35 25 = some (.if_icmp .ge 0, 28, 70) := by decide +kernel
theorem f35_28 : z_fetch 35 28 = some (.aload 0, 29, 0) := by decide +kernel
theorem f35_29 : z_fetch 35 29 = some (.instanceof 6, 32, 5) := by decide +kernel
theorem f35_32 : z_fetch 35 32 = some (.iload 2, 33, 0) := by decide +kernel
theorem f35_33 : z_fetch 35 33 = some (.aaload, 34, 0) := by decide +kernel
theorem f35_34 : z_fetch 35 34 = some (.aload 0, 35, 0) := by decide +kernel
theorem f35_35 : z_fetch 35 35 = some (.instanceof 6, 38, 0) := by decide +kernel
theorem f35_38 : z_fetch 35 38 = some (.instanceof 3, 41, 4) := by decide +kernel
theorem f35_41 : z_fetch 35 41 = some (.iload 2, 42, 0) := by decide +kernel
theorem f35_42 : z_fetch 35 42 = some (.iaload, 43, 0) := by decide +kernel
theorem f35_43 : z_fetch 35 43 = some (.aload 0, 44, 0) := by decide +kernel
theorem f35_44 : z_fetch 35 44 = some (.instanceof 6, 47, 0) := by decide +kernel
theorem f35_47 : z_fetch 35 47 = some (.instanceof 3, 50, 5) := by decide +kernel
theorem f35_50 : z_fetch 35 50 = some (.iload 2, 51, 0) := by decide +kernel
theorem f35_51 : z_fetch 35 51 = some (.iaload, 52, 0) := by decide +kernel
theorem f35_52 : z_fetch 35 52 = some (.aload 0, 53, 0) := by decide +kernel
theorem f35_53 : z_fetch 35 53 = some (.instanceof 6, 56, 0) := by decide +kernel
theorem f35_56 : z_fetch 35 56 = some (.instanceof 3, 59, 6) := by decide +kernel
theorem f35_59 : z_fetch 35 59 = some (.iload 2, 60, 0) := by decide +kernel
theorem f35_60 : z_fetch 35 60 = some (.iaload, 61, 0) := by decide +kernel
theorem f35_61 : z_fetch 35 61 = some (.invokevirtual 9, 64, 0) := by decide +kernel
theorem f35_64 : z_fetch 35 64 = some (.iinc 2 1, 67, 0) := by decide +kernel
theorem f35_67 : z_fetch 35 67 = some (.goto 0, 70, 17) := by decide +kernel
theorem f35_70 : z_fetch 35 70 = some (.return_, 71, 0) := by decide +kernel
theorem f36_0 : z_fetch 36 0 = some (.aload 0, 1, 0) := by decide +kernel
theorem f36_1 : z_fetch 36 1 = some (.aload 1, 2, 0) := by decide +kernel
theorem f36_2 : z_fetch 36 2 = some (.instanceof 6, 5, 0) := by decide +kernel
theorem f36_5 : z_fetch 36 5 = some (.putstatic 6, 8, 0) := by decide +kernel
theorem f36_8 : z_fetch 36 8 = some (.aload 0, 9, 0) := by decide +kernel
theorem f36_9 : z_fetch 36 9 = some (.aload 1, 10, 0) := by decide +kernel
theorem f36_10 : z_fetch 36 10 = some (.getfield 6, 13, 1) := by decide +kernel
theorem f36_13 : z_fetch 36 13 = some (.putfield 6, 16, 1) := by decide +kernel
theorem f36_16 : z_fetch 36 16 = some (.aload 0, 17, 0) := by decide +kernel
theorem f36_17 : z_fetch 36 17 = some (.aload 1, 18, 0) := by decide +kernel
theorem f36_18 : z_fetch 36 18 = some (.getfield 6, 21, 2) := by decide +kernel
theorem f36_21 : z_fetch 36 21 = some (.putfield 6, 24, 2) := by decide +kernel
theorem f36_24 : z_fetch 36 24 = some (.aload 0, 25, 0) := by decide +kernel
theorem f36_25 : z_fetch 36 25 = some (.aload 1, 26, 0) := by decide +kernel
theorem f36_26 : z_fetch 36 26 = some (.getfield 6, 29, 3) := by decide +kernel
theorem f36_29 : z_fetch 36 29 = some (.putfield 6, 32, 3) := by decide +kernel
theorem f36_32 : z_fetch 36 32 = some (.aload 0, 33, 0) := by decide +kernel
theorem f36_33 : z_fetch 36 33 = some (.aload 1, 34, 0) := by decide +kernel
theorem f36_34 : z_fetch 36 34 = some (.getfield 6, 37, 4) := by decide +kernel
theorem f36_37 : z_fetch 36 37 = some (.putfield 6, 40, 4) := by decide +kernel
theorem f36_40 : z_fetch 36 40 = some (.iconst 0, 41, 0) := by decide +kernel
theorem f36_41 : z_fetch 36 41 = some (.istore 2, 42, 0) := by decide +kernel
theorem f36_42 : z_fetch 36 42 = some (.iload 2, 43, 0) := by decide +kernel
theorem f36_43 : z_fetch 36 43 = some (.aload 0, 44, 0) := by decide +kernel
theorem f36_44 : z_fetch 36 44 = some (.instanceof 6, 47, 0) := by decide +kernel
theorem f36_47 : z_fetch 36 47 = some (.getfield 3, 50, 2) := by decide +kernel
theorem f36_50 : z_fetch 36 50 = some (.if_icmp .ge 0, 53, 74) := by decide +kernel
theorem f36_53 : z_fetch 36 53 = some (.aload 0, 54, 0) := by decide +kernel
theorem f36_54 : z_fetch 36 54 = some (.instanceof 6, 57, 5) := by decide +kernel
theorem f36_57 : z_fetch 36 57 = some (.iload 2, 58, 0) := by decide +kernel
theorem f36_58 : z_fetch 36 58 = some (.aaload, 59, 0) := by decide +kernel
theorem f36_59 : z_fetch 36 59 = some (.aload 1, 60, 0) := by decide +kernel
theorem f36_60 : z_fetch 36 60 = some (.instanceof 6, 63, 5) := by decide +kernel
theorem f36_63 : z_fetch 36 63 = some (.iload 2, 64, 0) := by decide +kernel
theorem f36_64 : z_fetch 36 64 = some (.aaload, 65, 0) := by decide +kernel
theorem f36_65 : z_fetch 36 65 = some (.invokevirtual 10, 68, 0) := by decide +kernel
theorem f36_68 : z_fetch 36 68 = some (.iinc 2 1, 71, 0) := by decide +kernel
theorem f36_71 : z_fetch 36 71 = some (.goto 0, 74, 42) := by decide +kernel
theorem f36_74 : z_fetch 36 74 = some (.return_, 75, 0) := by decide +kernel
theorem f37_0 : z_fetch 37 0 = some (.aload 0, 1, 0) := by decide +kernel
theorem f37_1 : z_fetch 37 1 = some (.getfield 6, 4, 1) := by decide +kernel
theorem f37_4 : z_fetch 37 4 = some (.aload 1, 5, 0) := by decide +kernel
theorem f37_5 : z_fetch 37 5 = some (.getfield 1, 8, 2) := by decide +kernel
theorem f37_8 : z_fetch 37 8 = some (.isub, 9, 0) := by decide +kernel
theorem f37_9 : z_fetch 37 9 = some (.aload 0, 10, 0) := by decide +kernel
theorem f37_10 : z_fetch 37 10 = some (.instanceof 6, 13, 0) := by decide +kernel
theorem f37_13 : z_fetch 37 13 = some (.getfield 3, 16, 1) := by decide +kernel
theorem f37_16 : z_fetch 37 16 = some (.if_icmp .le 0, 19, 23) := by decide +kernel
theorem f37_19 : z_fetch 37 19 = some (.iconst 1, 20, 0) := by decide +kernel
theorem f37_20 : z_fetch 37 20 = some (.goto 0, 23, 24) := by decide +kernel
theorem f37_23 : z_fetch 37 23 = some (.iconst 0, 24, 0) := by decide +kernel
theorem f37_24 : z_fetch 37 24 = some (.ireturn, 25, 1) := by decide +kernel
theorem f38_0 : z_fetch 38 0 = some (.iconst 0, 1, 0) := by decide +kernel
theorem f38_1 : z_fetch 38 1 = some (.istore 1, 2, 0) := by decide +kernel
theorem f38_2 : z_fetch 38 2 = some (.iconst 0, 3, 0) := by decide +kernel
theorem f38_3 : z_fetch 38 3 = some (.istore 2, 4, 0) := by decide +kernel
theorem f38_4 : z_fetch 38 4 = some (.iload 2, 5, 0) := by decide +kernel
theorem f38_5 : z_fetch 38 5 = some (.aload 0, 6, 0) := by decide +kernel
theorem f38_6 : z_fetch 38 6 = some (.instanceof 6, 9, 0) := by decide +kernel
theorem f38_9 : z_fetch 38 9 = some (.getfield 3, 12, 2) := by decide +kernel
theorem f38_12 : z_fetch 38 12 = some (.if_icmp .ge 0, 15, 40) := by decide +kernel
theorem f38_15 : z_fetch 38 15 = some (.aload 0, 16, 0) := by decide +kernel
theorem f38_16 : z_fetch 38 16 = some (.aload 0, 17, 0) := by decide +kernel
theorem f38_17 : z_fetch 38 17 = some (.instanceof 6, 20, 5) := by decide +kernel
theorem f38_20 : z_fetch 38 20 = some (.iload 2, 21, 0) := by decide +kernel
theorem f38_21 : z_fetch 38 21 = some (.aaload, 22, 0) := by decide +kernel
theorem f38_22 : z_fetch 38 22 = some (.invokevirtual 37, 25, 0) := by decide +kernel
theorem f38_25 : z_fetch 38 25 = some (.ifCond .eq 0, 28, 34) := by decide +kernel
theorem f38_28 : z_fetch 38 28 = some (.iload 1, 29, 0) := by decide +kernel
theorem f38_29 : z_fetch 38 29 = some (.iconst 1, 30, 0) := by decide +kernel
theorem f38_30 : z_fetch 38 30 = some (.iload 2, 31, 0) := by decide +kernel
theorem f38_31 : z_fetch 38 31 = some (.ishl, 32, 0) := by decide +kernel
theorem f38_32 : z_fetch 38 32 = some (.ior, 33, 0) := by decide +kernel
theorem f38_33 : z_fetch 38 33 = some (.istore 1, 34, 0) := by decide +kernel
theorem f38_34 : z_fetch 38 34 = some (.iinc 2 1, 37, 0) := by decide +kernel
theorem f38_37 : z_fetch 38 37 = some (.goto 0, 40, 4) := by decide +kernel
theorem f38_40 : z_fetch 38 40 = some (.iload 1, 41, 0) := by decide +kernel
theorem f38_41 : z_fetch 38 41 = some (.ireturn, 42, 0) := by decide +kernel
theorem f39_0 : z_fetch 39 0 = some (.iconst 0, 1, 0) := by decide +kernel
theorem f39_1 : z_fetch 39 1 = some (.istore 2, 2, 0) := by decide +kernel
theorem f39_2 : z_fetch 39 2 = some (.iconst 0, 3, 0) := by decide +kernel
theorem f39_3 : z_fetch 39 3 = some (.istore 3, 4, 0) := by decide +kernel
theorem f39_4 : z_fetch 39 4 = some (.iload 3, 5, 0) := by decide +kernel
theorem f39_5 : z_fetch 39 5 = some (.aload 0, 6, 0) := by decide +kernel
theorem f39_6 : z_fetch 39 6 = some (.instanceof 6, 9, 0) := by decide +kernel
theorem f39_9 : z_fetch 39 9 = some (.getfield 3, 12, 2) := by decide +kernel
theorem f39_12 : z_fetch 39 12 = some (.if_icmp .ge 0, 15, 40) := by decide +kernel
theorem f39_15 : z_fetch 39 15 = some (.aload 0, 16, 0) := by decide +kernel
theorem f39_16 : z_fetch 39 16 = some (.instanceof 6, 19, 5) := by decide +kernel
theorem f39_19 : z_fetch 39 19 = some (.iload 3, 20, 0) := by decide +kernel
theorem f39_20 : z_fetch 39 20 = some (.aaload, 21, 0) := by decide +kernel
theorem f39_21 : z_fetch 39 21 = some (.getfield 1, 24, 1) := by decide +kernel
theorem f39_24 : z_fetch 39 24 = some (.iload 1, 25, 0) := by decide +kernel
theorem f39_25 : z_fetch 39 25 = some (.if_icmp .ne 0, 28, 34) := by decide +kernel
theorem f39_28 : z_fetch 39 28 = some (.iload 2, 29, 0) := by decide +kernel
theorem f39_29 : z_fetch 39 29 = some (.iconst 1, 30, 0) := by decide +kernel
theorem f39_30 : z_fetch 39 30 = some (.iload 3, 31, 0) := by decide +kernel
theorem f39_31 : z_fetch 39 31 = some (.ishl, 32, 0) := by decide +kernel
theorem f39_32 : z_fetch 39 32 = some (.ior, 33, 0) := by decide +kernel
theorem f39_33 : z_fetch 39 33 = some (.istore 2, 34, 0) := by decide +kernel
theorem f39_34 : z_fetch 39 34 = some (.iinc 3 1, 37, 0) := by decide +kernel
theorem f39_37 : z_fetch 39 37 = some (.goto 0, 40, 4) := by decide +kernel
theorem f39_40 : z_fetch 39 40 = some (.iload 2, 41, 0) := by decide +kernel
theorem f39_41 : z_fetch 39 41 = some (.ireturn, 42, 0) := by decide +kernel
theorem f40_0 : z_fetch 40 0 = some (.iconst 0, 1, 0) := by decide +kernel
theorem f40_1 : z_fetch 40 1 = some (.istore 2, 2, 0) := by decide +kernel
theorem f40_2 : z_fetch 40 2 = some (.iconst 0, 3, 0) := by decide +kernel
theorem f40_3 : z_fetch 40 3 = some (.istore 3, 4, 0) := by decide +kernel
theorem f40_4 : z_fetch 40 4 = some (.iload 3, 5, 0) := by decide +kernel
theorem f40_5 : z_fetch 40 5 = some (.aload 0, 6, 0) := by decide +kernel
theorem f40_6 : z_fetch 40 6 = some (.instanceof 6, 9, 0) := by decide +kernel
theorem f40_9 : z_fetch 40 9 = some (.getfield 3, 12, 2) := by decide +kernel
theorem f40_12 : z_fetch 40 12 = some (.if_icmp .ge 0, 15, 37) := by decide +kernel
theorem f40_15 : z_fetch 40 15 = some (.aload 0, 16, 0) := by decide +kernel
theorem f40_16 : z_fetch 40 16 = some (.instanceof 6, 19, 5) := by decide +kernel
theorem f40_19 : z_fetch 40 19 = some (.iload 3, 20, 0) := by decide +kernel
theorem f40_20 : z_fetch 40 20 = some (.aaload, 21, 0) := by decide +kernel
theorem f40_21 : z_fetch 40 21 = some (.getfield 1, 24, 1) := by decide +kernel
theorem f40_24 : z_fetch 40 24 = some (.iload 1, 25, 0) := by decide +kernel
theorem f40_25 : z_fetch 40 25 = some (.if_icmp .ne 0, 28, 31) := by decide +kernel
theorem f40_28 : z_fetch 40 28 = some (.iinc 2 1, 31, 0) := by decide +kernel
theorem f40_31 : z_fetch 40 31 = some (.iinc 3 1, 34, 0) := by decide +kernel
theorem f40_34 : z_fetch 40 34 = some (.goto 0, 37, 4) := by decide +kernel
theorem f40_37 : z_fetch 40 37 = some (.iload 2, 38, 0) := by decide +kernel
theorem f40_38 : z_fetch 40 38 = some (.ireturn, 39, 0) := by decide +kernel
theorem f41_0 : z_fetch 41 0 = some (.iconst 0, 1, 0) := by decide +kernel
theorem f41_1 : z_fetch 41 1 = some (.istore 2, 2, 0) := by decide +kernel
theorem f41_2 : z_fetch 41 2 = some (.iconst 0, 3, 0) := by decide +kernel
theorem f41_3 : z_fetch 41 3 = some (.istore 3, 4, 0) := by decide +kernel
theorem f41_4 : z_fetch 41 4 = some (.iload 3, 5, 0) := by decide +kernel
theorem f41_5 : z_fetch 41 5 = some (.aload 0, 6, 0) := by decide +kernel
theorem f41_6 : z_fetch 41 6 = some (.instanceof 6, 9, 0) := by decide +kernel
theorem f41_9 : z_fetch 41 9 = some (.getfield 3, 12, 2) := by decide +kernel
theorem f41_12 : z_fetch 41 12 = some (.if_icmp .ge 0, 15, 55) := by decide +kernel
theorem f41_15 : z_fetch 41 15 = some (.aload 0, 16, 0) := by decide +kernel
theorem f41_16 : z_fetch 41 16 = some (.instanceof 6, 19, 5) := by decide +kernel
theorem f41_19 : z_fetch 41 19 = some (.iload 3, 20, 0) := by decide +kernel
theorem f41_20 : z_fetch 41 20 = some (.aaload, 21, 0) := by decide +kernel
theorem f41_21 : z_fetch 41 21 = some (.astore 4, 23, 0) := by decide +kernel
theorem f41_23 : z_fetch 41 23 = some (.aload 4, 25, 0) := by decide +kernel
theorem f41_25 : z_fetch 41 25 = some (.getfield 1, 28, 1) := by decide +kernel
theorem f41_28 : z_fetch 41 28 = some (.iload 1, 29, 0) := by decide +kernel
theorem f41_29 : z_fetch 41 29 = some (.if_icmp .ne 0, 32, 49) := by decide +kernel
theorem f41_32 : z_fetch 41 32 = some (.aload 0, 33, 0) := by decide +kernel
theorem f41_33 : z_fetch 41 33 = some (.aload 4, 35, 0) := by decide +kernel
theorem f41_35 : z_fetch 41 35 = some (.invokevirtual 37, 38, 0) := by decide +kernel
theorem f41_38 : z_fetch 41 38 = some (.ifCond .ne 0, 41, 49) := by decide +kernel
theorem f41_41 : z_fetch 41 41 = some (.iload 2, 42, 0) := by decide +kernel
theorem f41_42 : z_fetch 41 42 = some (.aload 4, 44, 0) := by decide +kernel
theorem f41_44 : z_fetch 41 44 = some (.getfield 1, 47, 0) := by decide +kernel
theorem f41_47 : z_fetch 41 47 = some (.iadd, 48, 0) := by decide +kernel
theorem f41_48 : z_fetch 41 48 = some (.istore 2, 49, 0) := by decide +kernel
theorem f41_49 : z_fetch 41 49 = some (.iinc 3 1, 52, 0) := by decide +kernel
theorem f41_52 : z_fetch 41 52 = some (.goto 0, 55, 4) := by decide +kernel
theorem f41_55 : z_fetch 41 55 = some (.iload 2, 56, 0) := by decide +kernel
theorem f41_56 : z_fetch 41 56 = some (.ireturn, 57, 0) := by decide +kernel
theorem f42_0 : z_fetch 42 0 = some (.iconst 0, 1, 0) := by decide +kernel
theorem f42_1 : z_fetch 42 1 = some (.istore 2, 2, 0) := by decide +kernel
theorem f42_2 : z_fetch 42 2 = some (.iconst 0, 3, 0) := by decide +kernel
theorem f42_3 : z_fetch 42 3 = some (.istore 3, 4, 0) := by decide +kernel
theorem f42_4 : z_fetch 42 4 = some (.iload 3, 5, 0) := by decide +kernel
theorem f42_5 : z_fetch 42 5 = some (.aload 0, 6, 0) := by decide +kernel
theorem f42_6 : z_fetch 42 6 = some (.instanceof 6, 9, 0) := by decide +kernel
theorem f42_9 : z_fetch 42 9 = some (.getfield 3, 12, 3) := by decide +kernel
theorem f42_12 : z_fetch 42 12 = some (.if_icmp .ge 0, 15, 94) := by decide +kernel
theorem f42_15 : z_fetch 42 15 = some (.aload 0, 16, 0) := by decide +kernel
theorem f42_16 : z_fetch 42 16 = some (.instanceof 6, 19, 0) := by decide +kernel
theorem f42_19 : z_fetch 42 19 = some (.instanceof 3, 22, 7) := by decide +kernel
theorem f42_22 : z_fetch 42 22 = some (.iload 3, 23, 0) := by decide +kernel
theorem f42_23 : z_fetch 42 23 = some (.iaload, 24, 0) := by decide +kernel
theorem f42_24 : z_fetch 42 24 = some (.aload 0, 25, 0) := by decide +kernel
theorem f42_25 : z_fetch 42 25 = some (.getfield 6, 28, 1) := by decide +kernel
theorem f42_28 : z_fetch 42 28 = some (.if_icmp .ne 0, 31, 88) := by decide +kernel
theorem f42_31 : z_fetch 42 31 = some (.aload 0, 32, 0) := by decide +kernel
theorem f42_32 : z_fetch 42 32 = some (.instanceof 6, 35, 0) := by decide +kernel
theorem f42_35 : z_fetch 42 35 = some (.instanceof 3, 38, 8) := by decide +kernel
theorem f42_38 : z_fetch 42 38 = some (.iload 3, 39, 0) := by decide +kernel
theorem f42_39 : z_fetch 42 39 = some (.iaload, 40, 0) := by decide +kernel
theorem f42_40 : z_fetch 42 40 = some (.iload 1, 41, 0) := by decide +kernel
theorem f42_41 : z_fetch 42 41 = some (.if_icmp .ne 0, 44, 61) := by decide +kernel
theorem f42_44 : z_fetch 42 44 = some (.iload 2, 45, 0) := by decide +kernel
theorem f42_45 : z_fetch 42 45 = some (.iconst 1, 46, 0) := by decide +kernel
theorem f42_46 : z_fetch 42 46 = some (.aload 0, 47, 0) := by decide +kernel
theorem f42_47 : z_fetch 42 47 = some (.instanceof 6, 50, 0) := by decide +kernel
theorem f42_50 : z_fetch 42 50 = some (.instanceof 3, 53, 9) := by decide +kernel
theorem f42_53 : z_fetch 42 53 = some (.iload 3, 54, 0) := by decide +kernel
theorem f42_54 : z_fetch 42 54 = some (.iaload, 55, 0) := by decide +kernel
theorem f42_55 : z_fetch 42 55 = some (.ishl, 56, 0) := by decide +kernel
theorem f42_56 : z_fetch 42 56 = some (.ior, 57, 0) := by decide +kernel
theorem f42_57 : z_fetch 42 57 = some (.istore 2, 58, 0) := by decide +kernel
theorem f42_58 : z_fetch 42 58 = some (.goto 0, 61, 88) := by decide +kernel
theorem f42_61 : z_fetch 42 61 = some (.aload 0, 62, 0) := by decide +kernel
theorem f42_62 : z_fetch 42 62 = some (.instanceof 6, 65, 0) := by decide +kernel
theorem f42_65 : z_fetch 42 65 = some (.instanceof 3, 68, 9) := by decide +kernel
theorem f42_68 : z_fetch 42 68 = some (.iload 3, 69, 0) := by decide +kernel
theorem f42_69 : z_fetch 42 69 = some (.iaload, 70, 0) := by decide +kernel
theorem f42_70 : z_fetch 42 70 = some (.iload 1, 71, 0) := by decide +kernel
theorem f42_71 : z_fetch 42 71 = some (.if_icmp .ne 0, 74, 88) := by decide +kernel
theorem f42_74 : z_fetch 42 74 = some (.iload 2, 75, 0) := by decide +kernel
theorem f42_75 : z_fetch 42 75 = some (.iconst 1, 76, 0) := by decide +kernel
theorem f42_76 : z_fetch 42 76 = some (.aload 0, 77, 0) := by decide +kernel
theorem f42_77 : z_fetch 42 77 = some (.instanceof 6, 80, 0) := by decide +kernel
theorem f42_80 : z_fetch 42 80 = some (.instanceof 3, 83, 8) := by decide +kernel
theorem f42_83 : z_fetch 42 83 = some (.iload 3, 84, 0) := by decide +kernel
theorem f42_84 : z_fetch 42 84 = some (.iaload, 85, 0) := by decide +kernel
theorem f42_85 : z_fetch 42 85 = some (.ishl, 86, 0) := by decide +kernel
theorem f42_86 : z_fetch 42 86 = some (.ior, 87, 0) := by decide +kernel
theorem f42_87 : z_fetch 42 87 = some (.istore 2, 88, 0) := by decide +kernel
theorem f42_88 : z_fetch 42 88 = some (.iinc 3 1, 91, 0) := by decide +kernel
theorem f42_91 : z_fetch 42 91 = some (.goto 0, 94, 4) := by decide +kernel
theorem f42_94 : z_fetch 42 94 = some (.iload 2, 95, 0) := by decide +kernel
theorem f42_95 : z_fetch 42 95 = some (.ireturn, 96, 0) := by decide +kernel
theorem f43_0 : z_fetch 43 0 = some (.iconst 0, 1, 0) := by decide +kernel
theorem f43_1 : z_fetch 43 1 = some (.istore 1, 2, 0) := by decide +kernel
theorem f43_2 : z_fetch 43 2 = some (.iconst 0, 3, 0) := by decide +kernel
theorem f43_3 : z_fetch 43 3 = some (.istore 2, 4, 0) := by decide +kernel
theorem f43_4 : z_fetch 43 4 = some (.iload 2, 5, 0) := by decide +kernel
theorem f43_5 : z_fetch 43 5 = some (.aload 0, 6, 0) := by decide +kernel
theorem f43_6 : z_fetch 43 6 = some (.instanceof 6, 9, 0) := by decide +kernel
theorem f43_9 : z_fetch 43 9 = some (.getfield 3, 12, 2) := by decide +kernel
theorem f43_12 : z_fetch 43 12 = some (.if_icmp .ge 0, 15, 37) := by decide +kernel
theorem f43_15 : z_fetch 43 15 = some (.aload 0, 16, 0) := by decide +kernel
theorem f43_16 : z_fetch 43 16 = some (.instanceof 6, 19, 5) := by decide +kernel
theorem f43_19 : z_fetch 43 19 = some (.iload 2, 20, 0) := by decide +kernel
theorem f43_20 : z_fetch 43 20 = some (.aaload, 21, 0) := by decide +kernel
theorem f43_21 : z_fetch 43 21 = some (.getfield 1, 24, 6) := by decide +kernel
theorem f43_24 : z_fetch 43 24 = some (.iconst (-1), 25, 0) := by decide +kernel
theorem f43_25 : z_fetch 43 25 = some (.if_icmp .eq 0, 28, 31) := by decide +kernel
theorem f43_28 : z_fetch 43 28 = some (.iinc 1 1, 31, 0) := by decide +kernel
theorem f43_31 : z_fetch 43 31 = some (.iinc 2 1, 34, 0) := by decide +kernel
theorem f43_34 : z_fetch 43 34 = some (.goto 0, 37, 4) := by decide +kernel
theorem f43_37 : z_fetch 43 37 = some (.iload 1, 38, 0) := by decide +kernel
theorem f43_38 : z_fetch 43 38 = some (.ireturn, 39, 0) := by decide +kernel
theorem f44_0 : z_fetch 44 0 = some (.aload 1, 1, 0) := by decide +kernel
theorem f44_1 : z_fetch 44 1 = some (.aload 0, 2, 0) := by decide +kernel
theorem f44_2 : z_fetch 44 2 = some (.getfield 6, 5, 1) := by decide +kernel
theorem f44_5 : z_fetch 44 5 = some (.invokevirtual 11, 8, 0) := by decide +kernel
theorem f44_8 : z_fetch 44 8 = some (.aload 1, 9, 0) := by decide +kernel
theorem f44_9 : z_fetch 44 9 = some (.dup, 10, 0) := by decide +kernel
theorem f44_10 : z_fetch 44 10 = some (.getfield 1, 13, 5) := by decide +kernel
theorem f44_13 : z_fetch 44 13 = some (.iconst 1, 14, 0) := by decide +kernel
theorem f44_14 : z_fetch 44 14 = some (.iadd, 15, 0) := by decide +kernel
theorem f44_15 : z_fetch 44 15 = some (.putfield 1, 18, 5) := by decide +kernel
theorem f44_18 : z_fetch 44 18 = some (.aload 0, 19, 0) := by decide +kernel
theorem f44_19 : z_fetch 44 19 = some (.dup, 20, 0) := by decide +kernel
theorem f44_20 : z_fetch 44 20 = some (.getfield 6, 23, 2) := by decide +kernel
theorem f44_23 : z_fetch 44 23 = some (.iconst 1, 24, 0) := by decide +kernel
theorem f44_24 : z_fetch 44 24 = some (.iadd, 25, 0) := by decide +kernel
theorem f44_25 : z_fetch 44 25 = some (.putfield 6, 28, 2) := by decide +kernel
theorem f44_28 : z_fetch 44 28 = some (.return_, 29, 0) := by decide +kernel
theorem f45_0 : z_fetch 45 0 = some (.aload 0, 1, 0) := by decide +kernel
theorem f45_1 : z_fetch 45 1 = some (.aload 0, 2, 0) := by decide +kernel
theorem f45_2 : z_fetch 45 2 = some (.getfield 6, 5, 4) := by decide +kernel
theorem f45_5 : z_fetch 45 5 = some (.i2l, 6, 0) := by decide +kernel
theorem f45_6 : z_fetch 45 6 = some (.goto_w 1103515245, 9, 0) := by decide +kernel
theorem f45_9 : z_fetch 45 9 = some (.lmul, 10, 0) := by decide +kernel
theorem f45_10 : z_fetch 45 10 = some (.goto_w 12345, 13, 0) := by decide +kernel
theorem f45_13 : z_fetch 45 13 = some (.ladd, 14, 0) := by decide +kernel
theorem f45_14 : z_fetch 45 14 = some (.goto_w 2147483647, 17, 0) := by decide +kernel
theorem f45_17 : z_fetch 45 17 = some (.land, 18, 0) := by decide +kernel
theorem f45_18 : z_fetch 45 18 = some (.l2i, 19, 0) := by decide +kernel
theorem f45_19 : z_fetch 45 19 = some (.putfield 6, 22, 4) := by decide +kernel
theorem f45_22 : z_fetch 45 22 = some (.aload 0, 23, 0) := by decide +kernel
theorem f45_23 : z_fetch 45 23 = some (.getfield 6, 26, 4) := by decide +kernel
theorem f45_26 : z_fetch 45 26 = some (.iconst 65536, 28, 0) := by decide +kernel
theorem f45_28 : z_fetch 45 28 = some (.idiv, 29, 0) := by decide +kernel
theorem f45_29 : z_fetch 45 29 = some (.ireturn, 30, 0) := by decide +kernel
theorem f46_0 : z_fetch 46 0 = some (.aload 0, 1, 0) := by decide +kernel
theorem f46_1 : z_fetch 46 1 = some (.monitorenter, 4, 0) := by decide +kernel
theorem f46_4 : z_fetch 46 4 = some (.aload 0, 5, 0) := by decide +kernel
theorem f46_5 : z_fetch 46 5 = some (.iconst 400, 8, 0) := by decide +kernel
theorem f46_8 : z_fetch 46 8 = some (.newarray .char, 10, 0) := by decide +kernel
theorem f46_10 : z_fetch 46 10 = some (.putstatic 7, 13, 0) := by decide +kernel
theorem f46_13 : z_fetch 46 13 = some (.return_, 14, 0) := by decide +kernel
theorem f47_0 : z_fetch 47 0 = some (.iconst 24, 2, 0) := by decide +kernel
theorem f47_2 : z_fetch 47 2 = some (.istore 2, 3, 0) := by decide +kernel
theorem f47_3 : z_fetch 47 3 = some (.iload 2, 4, 0) := by decide +kernel
theorem f47_4 : z_fetch 47 4 = some (.ifCond .lt 0, 7, 52) := by decide +kernel
theorem f47_7 : z_fetch 47 7 = some (.aload 0, 8, 0) := by decide +kernel
theorem f47_8 : z_fetch 47 8 = some (.getfield 7, 11, 1) := by decide +kernel
theorem f47_11 : z_fetch 47 11 = some (.aload 0, 12, 0) := by decide +kernel
theorem f47_12 : z_fetch 47 12 = some (.instanceof 7, 15, 0) := by decide +kernel
theorem f47_15 : z_fetch 47 15 = some (.arraylength, 16, 0) := by decide +kernel
theorem f47_16 : z_fetch 47 16 = some (.if_icmp .ge 0, 19, 46) := by decide +kernel
theorem f47_19 : z_fetch 47 19 = some (.aload 0, 20, 0) := by decide +kernel
theorem f47_20 : z_fetch 47 20 = some (.instanceof 7, 23, 0) := by decide +kernel
theorem f47_23 : z_fetch 47 23 = some (.aload 0, 24, 0) := by decide +kernel
theorem f47_24 : z_fetch 47 24 = some (.getfield 7, 27, 1) := by decide +kernel
theorem f47_27 : z_fetch 47 27 = some (.iload 1, 28, 0) := by decide +kernel
theorem f47_28 : z_fetch 47 28 = some (.iload 2, 29, 0) := by decide +kernel
theorem f47_29 : z_fetch 47 29 = some (.iushr, 30, 0) := by decide +kernel
theorem f47_30 : z_fetch 47 30 = some (.iconst 255, 33, 0) := by decide +kernel
theorem f47_33 : z_fetch 47 33 = some (.iand, 34, 0) := by decide +kernel
theorem f47_34 : z_fetch 47 34 = some (.i2c, 35, 0) := by decide +kernel
theorem f47_35 : z_fetch 47 35 = some (.castore, 36, 0) := by decide +kernel
theorem f47_36 : z_fetch 47 36 = some (.aload 0, 37, 0) := by decide +kernel
theorem f47_37 : z_fetch 47 37 = some (.dup, 38, 0) := by decide +kernel
theorem f47_38 : z_fetch 47 38 = some (.getfield 7, 41, 1) := by decide +kernel
theorem f47_41 : z_fetch 47 41 = some (.iconst 1, 42, 0) := by decide +kernel
theorem f47_42 : z_fetch 47 42 = some (.iadd, 43, 0) := by decide +kernel
theorem f47_43 : z_fetch 47 43 = some (.putfield 7, 46, 1) := by decide +kernel
theorem f47_46 : z_fetch 47 46 = some (.iinc 2 (-8), 49, 0) := by decide +kernel
theorem f47_49 : z_fetch 47 49 = some (.goto 0, 52, 3) := by decide +kernel
theorem f47_52 : z_fetch 47 52 = some (.return_, 53, 0) := by decide +kernel
theorem f48_0 : z_fetch 48 0 = some (.aload 0, 1, 0) := by decide +kernel
theorem f48_1 : z_fetch 48 1 = some (.iconst 0, 2, 0) := by decide +kernel
theorem f48_2 : z_fetch 48 2 = some (.putfield 7, 5, 3) := by decide +kernel
theorem f48_5 : z_fetch 48 5 = some (.aload 0, 6, 0) := by decide +kernel
theorem f48_6 : z_fetch 48 6 = some (.iconst 0, 7, 0) := by decide +kernel
theorem f48_7 : z_fetch 48 7 = some (.putfield 7, 10, 7) := by decide +kernel
theorem f48_10 : z_fetch 48 10 = some (.aload 0, 11, 0) := by decide +kernel
theorem f48_11 : z_fetch 48 11 = some (.iconst 0, 12, 0) := by decide +kernel
theorem f48_12 : z_fetch 48 12 = some (.putfield 7, 15, 4) := by decide +kernel
theorem f48_15 : z_fetch 48 15 = some (.aload 0, 16, 0) := by decide +kernel
theorem f48_16 : z_fetch 48 16 = some (.invokevirtual 49, 19, 0) := by decide +kernel
theorem f48_19 : z_fetch 48 19 = some (.return_, 20, 0) := by decide +kernel
theorem f49_0 : z_fetch 49 0 = some (.aload 0, 1, 0) := by decide +kernel
theorem f49_1 : z_fetch 49 1 = some (.getfield 7, 4, 4) := by decide +kernel
theorem f49_4 : z_fetch 49 4 = some (.iconst 4, 5, 0) := by decide +kernel
theorem f49_5 : z_fetch 49 5 = some (.if_icmp .ne 0, 8, 9) := by decide +kernel
theorem f49_8 : z_fetch 49 8 = some (.return_, 9, 0) := by decide +kernel
theorem f49_9 : z_fetch 49 9 = some (.aload 0, 10, 0) := by decide +kernel
theorem f49_10 : z_fetch 49 10 = some (.getfield 7, 13, 3) := by decide +kernel
theorem f49_13 : z_fetch 49 13 = some (.istore 1, 14, 0) := by decide +kernel
theorem f49_14 : z_fetch 49 14 = some (.iload 1, 15, 0) := by decide +kernel
theorem f49_15 : z_fetch 49 15 = some (.aload 0, 16, 0) := by decide +kernel
theorem f49_16 : z_fetch 49 16 = some (.getfield 7, 19, 1) := by decide +kernel
theorem f49_19 : z_fetch 49 19 = some (.if_icmp .ge 0, 22, 39) := by decide +kernel
theorem f49_22 : z_fetch 49 22 = some (.aload 0, 23, 0) := by decide +kernel
theorem f49_23 : z_fetch 49 23 = some (.instanceof 7, 26, 0) := by decide +kernel
theorem f49_26 : z_fetch 49 26 = some (.iload 1, 27, 0) := by decide +kernel
theorem f49_27 : z_fetch 49 27 = some (.caload, 28, 0) := by decide +kernel
theorem f49_28 : z_fetch 49 28 = some (.iconst 32, 30, 0) := by decide +kernel
theorem f49_30 : z_fetch 49 30 = some (.if_icmp .ne 0, 33, 39) := by decide +kernel
theorem f49_33 : z_fetch 49 33 = some (.iinc 1 1, 36, 0) := by decide +kernel
theorem f49_36 : z_fetch 49 36 = some (.goto 0, 39, 14) := by decide +kernel
theorem f49_39 : z_fetch 49 39 = some (.aload 0, 40, 0) := by decide +kernel
theorem f49_40 : z_fetch 49 40 = some (.iload 1, 41, 0) := by decide +kernel
theorem f49_41 : z_fetch 49 41 = some (.putfield 7, 44, 2) := by decide +kernel
theorem f49_44 : z_fetch 49 44 = some (.aload 0, 45, 0) := by decide +kernel
theorem f49_45 : z_fetch 49 45 = some (.iconst 1, 46, 0) := by decide +kernel
theorem f49_46 : z_fetch 49 46 = some (.putfield 7, 49, 4) := by decide +kernel
theorem f49_49 : z_fetch 49 49 = some (.iload 1, 50, 0) := by decide +kernel
theorem f49_50 : z_fetch 49 50 = some (.aload 0, 51, 0) := by decide +kernel
theorem f49_51 : z_fetch 49 51 = some (.getfield 7, 54, 1) := by decide +kernel
theorem f49_54 : z_fetch 49 54 = some (.if_icmp .ge 0, 57, 85) := by decide +kernel
theorem f49_57 : z_fetch 49 57 = some (.aload 0, 58, 0) := by decide +kernel
theorem f49_58 : z_fetch 49 58 = some (.instanceof 7, 61, 0) := by decide +kernel
theorem f49_61 : z_fetch 49 61 = some (.iload 1, 62, 0) := by decide +kernel
theorem f49_62 : z_fetch 49 62 = some (.caload, 63, 0) := by decide +kernel
theorem f49_63 : z_fetch 49 63 = some (.iconst 97, 65, 0) := by decide +kernel
theorem f49_65 : z_fetch 49 65 = some (.if_icmp .lt 0, 68, 85) := by decide +kernel
theorem f49_68 : z_fetch 49 68 = some (.aload 0, 69, 0) := by decide +kernel
theorem f49_69 : z_fetch 49 69 = some (.instanceof 7, 72, 0) := by decide +kernel
theorem f49_72 : z_fetch 49 72 = some (.iload 1, 73, 0) := by decide +kernel
theorem f49_73 : z_fetch 49 73 = some (.caload, 74, 0) := by decide +kernel
theorem f49_74 : z_fetch 49 74 = some (.iconst 122, 76, 0) := by decide +kernel
theorem f49_76 : z_fetch 49 76 = some (.if_icmp .gt 0, 79, 85) := by decide +kernel
theorem f49_79 : z_fetch 49 79 = some (.iinc 1 1, 82, 0) := by decide +kernel
theorem f49_82 : z_fetch 49 82 = some (.goto 0, 85, 49) := by decide +kernel
theorem f49_85 : z_fetch 49 85 = some (.iload 1, 86, 0) := by decide +kernel
theorem f49_86 : z_fetch 49 86 = some (.aload 0, 87, 0) := by decide +kernel
theorem f49_87 : z_fetch 49 87 = some (.getfield 7, 90, 2) := by decide +kernel
theorem f49_90 : z_fetch 49 90 = some (.if_icmp .ne 0, 93, 174) := by decide +kernel
theorem f49_93 : z_fetch 49 93 = some (.aload 0, 94, 0) := by decide +kernel
theorem f49_94 : z_fetch 49 94 = some (.iconst 2, 95, 0) := by decide +kernel
theorem f49_95 : z_fetch 49 95 = some (.putfield 7, 98, 4) := by decide +kernel
theorem f49_98 : z_fetch 49 98 = some (.aload 0, 99, 0) := by decide +kernel
theorem f49_99 : z_fetch 49 99 = some (.iconst 0, 100, 0) := by decide +kernel
theorem f49_100 : z_fetch 49 100 = some (.putfield 7, 103, 6) := by decide +kernel
theorem f49_103 : z_fetch 49 103 = some (.iload 1, 104, 0) := by decide +kernel
theorem f49_104 : z_fetch 49 104 = some (.aload 0, 105, 0) := by decide +kernel
theorem f49_105 : z_fetch 49 105 = some (.getfield 7, 108, 1) := by decide +kernel
theorem f49_108 : z_fetch 49 108 = some (.if_icmp .ge 0, 111, 174) := by decide +kernel
theorem f49_111 : z_fetch 49 111 = some (.aload 0, 112, 0) := by decide +kernel
theorem f49_112 : z_fetch 49 112 = some (.instanceof 7, 115, 0) := by decide +kernel
theorem f49_115 : z_fetch 49 115 = some (.iload 1, 116, 0) := by decide +kernel
theorem f49_116 : z_fetch 49 116 = some (.caload, 117, 0) := by decide +kernel
theorem f49_117 : z_fetch 49 117 = some (.iconst 48, 119, 0) := by decide +kernel
theorem f49_119 : z_fetch 49 119 = some (.if_icmp .lt 0, 122, 174) := by decide +kernel
theorem f49_122 : z_fetch 49 122 = some (.aload 0, 123, 0) := by decide +kernel
theorem f49_123 : z_fetch 49 123 = some (.instanceof 7, 126, 0) := by decide +kernel
theorem f49_126 : z_fetch 49 126 = some (.iload 1, 127, 0) := by decide +kernel
theorem f49_127 : z_fetch 49 127 = some (.caload, 128, 0) := by decide +kernel
theorem f49_128 : z_fetch 49 128 = some (.iconst 57, 130, 0) := by decide +kernel
theorem f49_130 : z_fetch 49 130 = some (.if_icmp .gt 0, 133, 174) := by decide +kernel
theorem f49_133 : z_fetch 49 133 = some (.aload 0, 134, 0) := by decide +kernel
theorem f49_134 : z_fetch 49 134 = some (.iload 1, 135, 0) := by decide +kernel
theorem f49_135 : z_fetch 49 135 = some (.aload 0, 136, 0) := by decide +kernel
theorem f49_136 : z_fetch 49 136 = some (.getfield 7, 139, 2) := by decide +kernel
theorem f49_139 : z_fetch 49 139 = some (.isub, 140, 0) := by decide +kernel
theorem f49_140 : z_fetch 49 140 = some (.iconst 5, 141, 0) := by decide +kernel
theorem f49_141 : z_fetch 49 141 = some (.if_icmp .ge 0, 144, 164) := by decide +kernel
theorem f49_144 : z_fetch 49 144 = some (.aload 0, 145, 0) := by decide +kernel
theorem f49_145 : z_fetch 49 145 = some (.getfield 7, 148, 6) := by decide +kernel
theorem f49_148 : z_fetch 49 148 = some (.iconst 10, 150, 0) := by decide +kernel
theorem f49_150 : z_fetch 49 150 = some (.imul, 151, 0) := by decide +kernel
theorem f49_151 : z_fetch 49 151 = some (.aload 0, 152, 0) := by decide +kernel
theorem f49_152 : z_fetch 49 152 = some (.instanceof 7, 155, 0) := by decide +kernel
theorem f49_155 : z_fetch 49 155 = some (.iload 1, 156, 0) := by decide +kernel
theorem f49_156 : z_fetch 49 156 = some (.caload, 157, 0) := by decide +kernel
theorem f49_157 : z_fetch 49 157 = some (.iadd, 158, 0) := by decide +kernel
theorem f49_158 : z_fetch 49 158 = some (.iconst 48, 160, 0) := by decide +kernel
theorem f49_160 : z_fetch 49 160 = some (.isub, 161, 0) := by decide +kernel
theorem f49_161 : z_fetch 49 161 = some (.goto 0, 164, 165) := by decide +kernel
theorem f49_164 : z_fetch 49 164 = some (.iconst (-1), 165, 0) := by decide +kernel
theorem f49_165 : z_fetch 49 165 = some (.putfield 7, 168, 6) := by decide +kernel
theorem f49_168 : z_fetch 49 168 = some (.iinc 1 1, 171, 0) := by decide +kernel
theorem f49_171 : z_fetch 49 171 = some (.goto 0, 174, 103) := by decide +kernel
theorem f49_174 : z_fetch 49 174 = some (.iload 1, 175, 0) := by decide +kernel
theorem f49_175 : z_fetch 49 175 = some (.aload 0, 176, 0) := by decide +kernel
theorem f49_176 : z_fetch 49 176 = some (.getfield 7, 179, 2) := by decide +kernel
theorem f49_179 : z_fetch 49 179 = some (.if_icmp .ne 0, 182, 265) := by decide +kernel
theorem f49_182 : z_fetch 49 182 = some (.aload 0, 183, 0) := by decide +kernel
theorem f49_183 : z_fetch 49 183 = some (.iconst 0, 184, 0) := by decide +kernel
theorem f49_184 : z_fetch 49 184 = some (.putfield 7, 187, 4) := by decide +kernel
theorem f49_187 : z_fetch 49 187 = some (.iload 1, 188, 0) := by decide +kernel
theorem f49_188 : z_fetch 49 188 = some (.aload 0, 189, 0) := by decide +kernel
theorem f49_189 : z_fetch 49 189 = some (.getfield 7, 192, 1) := by decide +kernel
theorem f49_192 : z_fetch 49 192 = some (.if_icmp .ge 0, 195, 265) := by decide +kernel
theorem f49_195 : z_fetch 49 195 = some (.aload 0, 196, 0) := by decide +kernel
theorem f49_196 : z_fetch 49 196 = some (.iconst 3, 197, 0) := by decide +kernel
theorem f49_197 : z_fetch 49 197 = some (.putfield 7, 200, 4) := by decide +kernel
theorem f49_200 : z_fetch 49 200 = some (.aload 0, 201, 0) := by decide +kernel
theorem f49_201 : z_fetch 49 201 = some (.aload 0, 202, 0) := by decide +kernel
theorem f49_202 : z_fetch 49 202 = some (.instanceof 7, 205, 0) := by decide +kernel
theorem f49_205 : z_fetch 49 205 = some (.iload 1, 206, 0) := by decide +kernel
theorem f49_206 : z_fetch 49 206 = some (.caload, 207, 0) := by decide +kernel
theorem f49_207 : z_fetch 49 207 = some (.putfield 7, 210, 5) := by decide +kernel
theorem f49_210 : z_fetch 49 210 = some (.iinc 1 1, 213, 0) := by decide +kernel
theorem f49_213 : z_fetch 49 213 = some (.aload 0, 214, 0) := by decide +kernel
theorem f49_214 : z_fetch 49 214 = some (.getfield 7, 217, 5) := by decide +kernel
theorem f49_217 : z_fetch 49 217 = some (.iconst 60, 219, 0) := by decide +kernel
theorem f49_219 : z_fetch 49 219 = some (.if_icmp .eq 0, 222, 231) := by decide +kernel
theorem f49_222 : z_fetch 49 222 = some (.aload 0, 223, 0) := by decide +kernel
theorem f49_223 : z_fetch 49 223 = some (.getfield 7, 226, 5) := by decide +kernel
theorem f49_226 : z_fetch 49 226 = some (.iconst 62, 228, 0) := by decide +kernel
theorem f49_228 : z_fetch 49 228 = some (.if_icmp .ne 0, 231, 265) := by decide +kernel
theorem f49_231 : z_fetch 49 231 = some (.iload 1, 232, 0) := by decide +kernel
theorem f49_232 : z_fetch 49 232 = some (.aload 0, 233, 0) := by decide +kernel
theorem f49_233 : z_fetch 49 233 = some (.getfield 7, 236, 1) := by decide +kernel
theorem f49_236 : z_fetch 49 236 = some (.if_icmp .ge 0, 239, 265) := by decide +kernel
theorem f49_239 : z_fetch 49 239 = some (.aload 0, 240, 0) := by decide +kernel
theorem f49_240 : z_fetch 49 240 = some (.instanceof 7, 243, 0) := by decide +kernel
theorem f49_243 : z_fetch 49 243 = some (.iload 1, 244, 0) := by decide +kernel
theorem f49_244 : z_fetch 49 244 = some (.caload, 245, 0) := by decide +kernel
theorem f49_245 : z_fetch 49 245 = some (.iconst 61, 247, 0) := by decide +kernel
theorem f49_247 : z_fetch 49 247 = some (.if_icmp .ne 0, 250, 265) := by decide +kernel
theorem f49_250 : z_fetch 49 250 = some (.aload 0, 251, 0) := by decide +kernel
theorem f49_251 : z_fetch 49 251 = some (.dup, 252, 0) := by decide +kernel
theorem f49_252 : z_fetch 49 252 = some (.getfield 7, 255, 5) := by decide +kernel
theorem f49_255 : z_fetch 49 255 = some (.iconst 256, 258, 0) := by decide +kernel
theorem f49_258 : z_fetch 49 258 = some (.iadd, 259, 0) := by decide +kernel
theorem f49_259 : z_fetch 49 259 = some (.putfield 7, 262, 5) := by decide +kernel
theorem f49_262 : z_fetch 49 262 = some (.iinc 1 1, 265, 0) := by decide +kernel
theorem f49_265 : z_fetch 49 265 = some (.aload 0, 266, 0) := by decide +kernel
theorem f49_266 : z_fetch 49 266 = some (.iload 1, 267, 0) := by decide +kernel
theorem f49_267 : z_fetch 49 267 = some (.putfield 7, 270, 3) := by decide +kernel
theorem f49_270 : z_fetch 49 270 = some (.return_, 271, 0) := by decide +kernel
theorem f50_0 : z_fetch 50 0 = some (.aload 0, 1, 0) := by decide +kernel
theorem f50_1 : z_fetch 50 1 = some (.getfield 7, 4, 4) := by decide +kernel
theorem f50_4 : z_fetch 50 4 = some (.ifCond .ne 0, 7, 11) := by decide +kernel
theorem f50_7 : z_fetch 50 7 = some (.iconst 1, 8, 0) := by decide +kernel
theorem f50_8 : z_fetch 50 8 = some (.goto 0, 11, 12) := by decide +kernel
theorem f50_11 : z_fetch 50 11 = some (.iconst 0, 12, 0) := by decide +kernel
theorem f50_12 : z_fetch 50 12 = some (.ireturn, 13, 1) := by decide +kernel
theorem f51_0 : z_fetch 51 0 = some (.aload 0, 1, 0) := by decide +kernel
theorem f51_1 : z_fetch 51 1 = some (.getfield 7, 4, 4) := by decide +kernel
theorem f51_4 : z_fetch 51 4 = some (.iconst 2, 5, 0) := by decide +kernel
theorem f51_5 : z_fetch 51 5 = some (.if_icmp .ne 0, 8, 12) := by decide +kernel
theorem f51_8 : z_fetch 51 8 = some (.iconst 1, 9, 0) := by decide +kernel
theorem f51_9 : z_fetch 51 9 = some (.goto 0, 12, 13) := by decide +kernel
theorem f51_12 : z_fetch 51 12 = some (.iconst 0, 13, 0) := by decide +kernel
theorem f51_13 : z_fetch 51 13 = some (.ireturn, 14, 1) := by decide +kernel
theorem f52_0 : z_fetch 52 0 = some (.aload 0, 1, 0) := by decide +kernel
theorem f52_1 : z_fetch 52 1 = some (.getfield 7, 4, 4) := by decide +kernel
theorem f52_4 : z_fetch 52 4 = some (.iconst 3, 5, 0) := by decide +kernel
theorem f52_5 : z_fetch 52 5 = some (.if_icmp .ne 0, 8, 20) := by decide +kernel
theorem f52_8 : z_fetch 52 8 = some (.aload 0, 9, 0) := by decide +kernel
theorem f52_9 : z_fetch 52 9 = some (.getfield 7, 12, 5) := by decide +kernel
theorem f52_12 : z_fetch 52 12 = some (.iload 1, 13, 0) := by decide +kernel
theorem f52_13 : z_fetch 52 13 = some (.if_icmp .ne 0, 16, 20) := by decide +kernel
theorem f52_16 : z_fetch 52 16 = some (.iconst 1, 17, 0) := by decide +kernel
theorem f52_17 : z_fetch 52 17 = some (.goto 0, 20, 21) := by decide +kernel
theorem f52_20 : z_fetch 52 20 = some (.iconst 0, 21, 0) := by decide +kernel
theorem f52_21 : z_fetch 52 21 = some (.ireturn, 22, 1) := by decide +kernel
theorem f53_0 : z_fetch 53 0 = some (.aload 0, 1, 0) := by decide +kernel
theorem f53_1 : z_fetch 53 1 = some (.getfield 7, 4, 4) := by decide +kernel
theorem f53_4 : z_fetch 53 4 = some (.iconst 1, 5, 0) := by decide +kernel
theorem f53_5 : z_fetch 53 5 = some (.if_icmp .ne 0, 8, 24) := by decide +kernel
theorem f53_8 : z_fetch 53 8 = some (.aload 0, 9, 0) := by decide +kernel
theorem f53_9 : z_fetch 53 9 = some (.getfield 7, 12, 3) := by decide +kernel
theorem f53_12 : z_fetch 53 12 = some (.aload 0, 13, 0) := by decide +kernel
theorem f53_13 : z_fetch 53 13 = some (.getfield 7, 16, 2) := by decide +kernel
theorem f53_16 : z_fetch 53 16 = some (.isub, 17, 0) := by decide +kernel
theorem f53_17 : z_fetch 53 17 = some (.aload 1, 18, 0) := by decide +kernel
theorem f53_18 : z_fetch 53 18 = some (.invokevirtual 206, 21, 0) := by decide +kernel
theorem f53_21 : z_fetch 53 21 = some (.if_icmp .eq 0, 24, 26) := by decide +kernel
theorem f53_24 : z_fetch 53 24 = some (.iconst 0, 25, 0) := by decide +kernel
theorem f53_25 : z_fetch 53 25 = some (.ireturn, 26, 1) := by decide +kernel
theorem f53_26 : z_fetch 53 26 = some (.iconst 0, 27, 0) := by decide +kernel
theorem f53_27 : z_fetch 53 27 = some (.istore 2, 28, 0) := by decide +kernel
theorem f53_28 : z_fetch 53 28 = some (.iload 2, 29, 0) := by decide +kernel
theorem f53_29 : z_fetch 53 29 = some (.aload 1, 30, 0) := by decide +kernel
theorem f53_30 : z_fetch 53 30 = some (.invokevirtual 206, 33, 0) := by decide +kernel
theorem f53_33 : z_fetch 53 33 = some (.if_icmp .ge 0, 36, 63) := by decide +kernel
theorem f53_36 : z_fetch 53 36 = some (.aload 0, 37, 0) := by decide +kernel
theorem f53_37 : z_fetch 53 37 = some (.instanceof 7, 40, 0) := by decide +kernel
theorem f53_40 : z_fetch 53 40 = some (.aload 0, 41, 0) := by decide +kernel
theorem f53_41 : z_fetch 53 41 = some (.getfield 7, 44, 2) := by decide +kernel
theorem f53_44 : z_fetch 53 44 = some (.iload 2, 45, 0) := by decide +kernel
theorem f53_45 : z_fetch 53 45 = some (.iadd, 46, 0) := by decide +kernel
theorem f53_46 : z_fetch 53 46 = some (.caload, 47, 0) := by decide +kernel
theorem f53_47 : z_fetch 53 47 = some (.aload 1, 48, 0) := by decide +kernel
theorem f53_48 : z_fetch 53 48 = some (.iload 2, 49, 0) := by decide +kernel
theorem f53_49 : z_fetch 53 49 = some (.invokevirtual 207, 52, 0) := by decide +kernel
theorem f53_52 : z_fetch 53 52 = some (.if_icmp .eq 0, 55, 57) := by decide +kernel
theorem f53_55 : z_fetch 53 55 = some (.iconst 0, 56, 0) := by decide +kernel
theorem f53_56 : z_fetch 53 56 = some (.ireturn, 57, 1) := by decide +kernel
theorem f53_57 : z_fetch 53 57 = some (.iinc 2 1, 60, 0) := by decide +kernel
theorem f53_60 : z_fetch 53 60 = some (.goto 0, 63, 28) := by decide +kernel
theorem f53_63 : z_fetch 53 63 = some (.iconst 1, 64, 0) := by decide +kernel
theorem f53_64 : z_fetch 53 64 = some (.ireturn, 65, 1) := by decide +kernel
theorem f54_0 : z_fetch 54 0 = some (.aload 0, 1, 0) := by decide +kernel
theorem f54_1 : z_fetch 54 1 = some (.getfield 7, 4, 4) := by decide +kernel
theorem f54_4 : z_fetch 54 4 = some (.iconst 1, 5, 0) := by decide +kernel
theorem f54_5 : z_fetch 54 5 = some (.if_icmp .ne 0, 8, 20) := by decide +kernel
theorem f54_8 : z_fetch 54 8 = some (.aload 0, 9, 0) := by decide +kernel
theorem f54_9 : z_fetch 54 9 = some (.getfield 7, 12, 3) := by decide +kernel
theorem f54_12 : z_fetch 54 12 = some (.aload 0, 13, 0) := by decide +kernel
theorem f54_13 : z_fetch 54 13 = some (.getfield 7, 16, 2) := by decide +kernel
theorem f54_16 : z_fetch 54 16 = some (.isub, 17, 0) := by decide +kernel
theorem f54_17 : z_fetch 54 17 = some (.goto 0, 20, 21) := by decide +kernel
theorem f54_20 : z_fetch 54 20 = some (.iconst 0, 21, 0) := by decide +kernel
theorem f54_21 : z_fetch 54 21 = some (.istore 2, 22, 0) := by decide +kernel
theorem f54_22 : z_fetch 54 22 = some (.iconst 1, 23, 0) := by decide +kernel
theorem f54_23 : z_fetch 54 23 = some (.istore 3, 24, 0) := by decide +kernel
theorem f54_24 : z_fetch 54 24 = some (.iconst 0, 25, 0) := by decide +kernel
theorem f54_25 : z_fetch 54 25 = some (.istore 4, 27, 0) := by decide +kernel
theorem f54_27 : z_fetch 54 27 = some (.iconst 0, 28, 0) := by decide +kernel
theorem f54_28 : z_fetch 54 28 = some (.istore 5, 30, 0) := by decide +kernel
theorem f54_30 : z_fetch 54 30 = some (.iload 5, 32, 0) := by decide +kernel
theorem f54_32 : z_fetch 54 32 = some (.aload 1, 33, 0) := by decide +kernel
theorem f54_33 : z_fetch 54 33 = some (.invokevirtual 206, 36, 0) := by decide +kernel
theorem f54_36 : z_fetch 54 36 = some (.if_icmp .ge 0, 39, 119) := by decide +kernel
theorem f54_39 : z_fetch 54 39 = some (.aload 1, 40, 0) := by decide +kernel
theorem f54_40 : z_fetch 54 40 = some (.iload 5, 42, 0) := by decide +kernel
theorem f54_42 : z_fetch 54 42 = some (.invokevirtual 207, 45, 0) := by decide +kernel
theorem f54_45 : z_fetch 54 45 = some (.istore 6, 47, 0) := by decide +kernel
theorem f54_47 : z_fetch 54 47 = some (.iload 6, 49, 0) := by decide +kernel
theorem f54_49 : z_fetch 54 49 = some (.iconst 32, 51, 0) := by decide +kernel
theorem f54_51 : z_fetch 54 51 = some (.if_icmp .ne 0, 54, 75) := by decide +kernel
theorem f54_54 : z_fetch 54 54 = some (.iload 2, 55, 0) := by decide +kernel
theorem f54_55 : z_fetch 54 55 = some (.ifCond .le 0, 58, 66) := by decide +kernel
theorem f54_58 : z_fetch 54 58 = some (.iload 4, 60, 0) := by decide +kernel
theorem f54_60 : z_fetch 54 60 = some (.iload 2, 61, 0) := by decide +kernel
theorem f54_61 : z_fetch 54 61 = some (.if_icmp .ne 0, 64, 66) := by decide +kernel
theorem f54_64 : z_fetch 54 64 = some (.iload 3, 65, 0) := by decide +kernel
theorem f54_65 : z_fetch 54 65 = some (.ireturn, 66, 0) := by decide +kernel
theorem f54_66 : z_fetch 54 66 = some (.iinc 3 1, 69, 0) := by decide +kernel
theorem f54_69 : z_fetch 54 69 = some (.iconst 0, 70, 0) := by decide +kernel
theorem f54_70 : z_fetch 54 70 = some (.istore 4, 72, 0) := by decide +kernel
theorem f54_72 : z_fetch 54 72 = some (.goto 0, 75, 113) := by decide +kernel
theorem f54_75 : z_fetch 54 75 = some (.iload 4, 77, 0) := by decide +kernel
theorem f54_77 : z_fetch 54 77 = some (.ifCond .lt 0, 80, 110) := by decide +kernel
theorem f54_80 : z_fetch 54 80 = some (.iload 4, 82, 0) := by decide +kernel
theorem f54_82 : z_fetch 54 82 = some (.iload 2, 83, 0) := by decide +kernel
theorem f54_83 : z_fetch 54 83 = some (.if_icmp .ge 0, 86, 110) := by decide +kernel
theorem f54_86 : z_fetch 54 86 = some (.aload 0, 87, 0) := by decide +kernel
theorem f54_87 : z_fetch 54 87 = some (.instanceof 7, 90, 0) := by decide +kernel
theorem f54_90 : z_fetch 54 90 = some (.aload 0, 91, 0) := by decide +kernel
theorem f54_91 : z_fetch 54 91 = some (.getfield 7, 94, 2) := by decide +kernel
theorem f54_94 : z_fetch 54 94 = some (.iload 4, 96, 0) := by decide +kernel
theorem f54_96 : z_fetch 54 96 = some (.iadd, 97, 0) := by decide +kernel
theorem f54_97 : z_fetch 54 97 = some (.caload, 98, 0) := by decide +kernel
theorem f54_98 : z_fetch 54 98 = some (.iload 6, 100, 0) := by decide +kernel
theorem f54_100 : z_fetch 54 100 = some (.if_icmp .ne 0, 103, 110) := by decide +kernel
theorem f54_103 : z_fetch 54 103 = some (.iload 4, 105, 0) := by decide +kernel
theorem f54_105 : z_fetch 54 105 = some (.iconst 1, 106, 0) := by decide +kernel
theorem f54_106 : z_fetch 54 106 = some (.iadd, 107, 0) := by decide +kernel
theorem f54_107 : z_fetch 54 107 = some (.goto 0, 110, 111) := by decide +kernel
theorem f54_110 : z_fetch 54 110 = some (.iconst (-1), 111, 0) := by decide +kernel
theorem f54_111 : z_fetch 54 111 = some (.istore 4, 113, 0) := by decide +kernel
theorem f54_113 : z_fetch 54 113 = some (.iinc 5 1, 116, 0) := by decide +kernel
theorem f54_116 : z_fetch 54 116 = some (.goto 0, 119, 30) := by decide +kernel
theorem f54_119 : z_fetch 54 119 = some (.iconst 0, 120, 0) := by decide +kernel
theorem f54_120 : z_fetch 54 120 = some (.ireturn, 121, 0) := by decide +kernel
theorem f55_0 : z_fetch 55 0 = some (.aload 0, 1, 0) := by decide +kernel
theorem f55_1 : z_fetch 55 1 = some (.getfield 7, 4, 7) := by decide +kernel
theorem f55_4 : z_fetch 55 4 = some (.ifCond .ne 0, 7, 22) := by decide +kernel
theorem f55_7 : z_fetch 55 7 = some (.aload 0, 8, 0) := by decide +kernel
theorem f55_8 : z_fetch 55 8 = some (.iconst 1, 9, 0) := by decide +kernel
theorem f55_9 : z_fetch 55 9 = some (.iconst 8, 11, 0) := by decide +kernel
theorem f55_11 : z_fetch 55 11 = some (.aload 0, 12, 0) := by decide +kernel
theorem f55_12 : z_fetch 55 12 = some (.getfield 7, 15, 2) := by decide +kernel
theorem f55_15 : z_fetch 55 15 = some (.imul, 16, 0) := by decide +kernel
theorem f55_16 : z_fetch 55 16 = some (.iadd, 17, 0) := by decide +kernel
theorem f55_17 : z_fetch 55 17 = some (.iload 1, 18, 0) := by decide +kernel
theorem f55_18 : z_fetch 55 18 = some (.iadd, 19, 0) := by decide +kernel
theorem f55_19 : z_fetch 55 19 = some (.putfield 7, 22, 7) := by decide +kernel
theorem f55_22 : z_fetch 55 22 = some (.aload 0, 23, 0) := by decide +kernel
theorem f55_23 : z_fetch 55 23 = some (.iconst 4, 24, 0) := by decide +kernel
theorem f55_24 : z_fetch 55 24 = some (.putfield 7, 27, 4) := by decide +kernel
theorem f55_27 : z_fetch 55 27 = some (.return_, 28, 0) := by decide +kernel
theorem f56_0 : z_fetch 56 0 = some (.aload 0, 1, 0) := by decide +kernel
theorem f56_1 : z_fetch 56 1 = some (.monitorenter, 4, 0) := by decide +kernel
theorem f56_4 : z_fetch 56 4 = some (.aload 0, 5, 0) := by decide +kernel
theorem f56_5 : z_fetch 56 5 = some (.aload 1, 6, 0) := by decide +kernel
theorem f56_6 : z_fetch 56 6 = some (.putstatic 8, 9, 0) := by decide +kernel
theorem f56_9 : z_fetch 56 9 = some (.return_, 10, 0) := by decide +kernel
theorem f57_0 : z_fetch 57 0 = some (.new 3, 3, 0) := by decide +kernel
theorem f57_3 : z_fetch 57 3 = some (.dup, 4, 0) := by decide +kernel
theorem f57_4 : z_fetch 57 4 = some (.invokespecial 18, 7, 0) := by decide +kernel
theorem f57_7 : z_fetch 57 7 = some (.astore 1, 8, 0) := by decide +kernel
theorem f57_8 : z_fetch 57 8 = some (.aload 1, 9, 0) := by decide +kernel
theorem f57_9 : z_fetch 57 9 = some (.iconst 365, 12, 0) := by decide +kernel
theorem f57_12 : z_fetch 57 12 = some (.putfield 3, 15, 1) := by decide +kernel
theorem f57_15 : z_fetch 57 15 = some (.aload 0, 16, 0) := by decide +kernel
theorem f57_16 : z_fetch 57 16 = some (.iconst 0, 17, 0) := by decide +kernel
theorem f57_17 : z_fetch 57 17 = some (.putfield 8, 20, 1) := by decide +kernel
theorem f57_20 : z_fetch 57 20 = some (.aload 0, 21, 0) := by decide +kernel
theorem f57_21 : z_fetch 57 21 = some (.iconst 0, 22, 0) := by decide +kernel
theorem f57_22 : z_fetch 57 22 = some (.ldc_w 8, 25, 2) := by decide +kernel
theorem f57_25 : z_fetch 57 25 = some (.aload 0, 26, 0) := by decide +kernel
theorem f57_26 : z_fetch 57 26 = some (.instanceof 8, 29, 0) := by decide +kernel
theorem f57_29 : z_fetch 57 29 = some (.invokevirtual 48, 32, 0) := by decide +kernel
theorem f57_32 : z_fetch 57 32 = some (.aload 0, 33, 0) := by decide +kernel
theorem f57_33 : z_fetch 57 33 = some (.aload 1, 34, 0) := by decide +kernel
theorem f57_34 : z_fetch 57 34 = some (.invokevirtual 58, 37, 0) := by decide +kernel
theorem f57_37 : z_fetch 57 37 = some (.iconst 0, 38, 0) := by decide +kernel
theorem f57_38 : z_fetch 57 38 = some (.istore 2, 39, 0) := by decide +kernel
theorem f57_39 : z_fetch 57 39 = some (.iload 2, 40, 0) := by decide +kernel
theorem f57_40 : z_fetch 57 40 = some (.iconst 400, 43, 0) := by decide +kernel
theorem f57_43 : z_fetch 57 43 = some (.if_icmp .ge 0, 46, 76) := by decide +kernel
theorem f57_46 : z_fetch 57 46 = some (.aload 0, 47, 0) := by decide +kernel
theorem f57_47 : z_fetch 57 47 = some (.instanceof 8, 50, 0) := by decide +kernel
theorem f57_50 : z_fetch 57 50 = some (.iconst 59, 52, 0) := by decide +kernel
theorem f57_52 : z_fetch 57 52 = some (.invokevirtual 52, 55, 0) := by decide +kernel
theorem f57_55 : z_fetch 57 55 = some (.ifCond .eq 0, 58, 76) := by decide +kernel
theorem f57_58 : z_fetch 57 58 = some (.aload 0, 59, 0) := by decide +kernel
theorem f57_59 : z_fetch 57 59 = some (.instanceof 8, 62, 0) := by decide +kernel
theorem f57_62 : z_fetch 57 62 = some (.invokevirtual 49, 65, 0) := by decide +kernel
theorem f57_65 : z_fetch 57 65 = some (.aload 0, 66, 0) := by decide +kernel
theorem f57_66 : z_fetch 57 66 = some (.aload 1, 67, 0) := by decide +kernel
theorem f57_67 : z_fetch 57 67 = some (.invokevirtual 58, 70, 0) := by decide +kernel
theorem f57_70 : z_fetch 57 70 = some (.iinc 2 1, 73, 0) := by decide +kernel
theorem f57_73 : z_fetch 57 73 = some (.goto 0, 76, 39) := by decide +kernel
theorem f57_76 : z_fetch 57 76 = some (.aload 0, 77, 0) := by decide +kernel
theorem f57_77 : z_fetch 57 77 = some (.instanceof 8, 80, 0) := by decide +kernel
theorem f57_80 : z_fetch 57 80 = some (.invokevirtual 50, 83, 0) := by decide +kernel
theorem f57_83 : z_fetch 57 83 = some (.ifCond .ne 0, 86, 94) := by decide +kernel
theorem f57_86 : z_fetch 57 86 = some (.aload 0, 87, 0) := by decide +kernel
theorem f57_87 : z_fetch 57 87 = some (.instanceof 8, 90, 0) := by decide +kernel
theorem f57_90 : z_fetch 57 90 = some (.iconst 0, 91, 0) := by decide +kernel
theorem f57_91 : z_fetch 57 91 = some (.invokevirtual 55, 94, 0) := by decide +kernel
theorem f57_94 : z_fetch 57 94 = some (.aload 0, 95, 0) := by decide +kernel
theorem f57_95 : z_fetch 57 95 = some (.instanceof 8, 98, 0) := by decide +kernel
theorem f57_98 : z_fetch 57 98 = some (.getfield 7, 101, 7) := by decide +kernel
theorem f57_101 : z_fetch 57 101 = some (.ifCond .ne 0, 104, 108) := by decide +kernel
theorem f57_104 : z_fetch 57 104 = some (.aload 1, 105, 0) := by decide +kernel
theorem f57_105 : z_fetch 57 105 = some (.goto 0, 108, 109) := by decide +kernel
theorem f57_108 : z_fetch 57 108 = some (.aconst_null, 109, 0) := by decide +kernel
theorem f57_109 : z_fetch 57 109 = some (.areturn, 110, 0) := by decide +kernel
theorem f58_0 : z_fetch 58 0 = some (.aload 0, 1, 0) := by decide +kernel
theorem f58_1 : z_fetch 58 1 = some (.instanceof 8, 4, 0) := by decide +kernel
theorem f58_4 : z_fetch 58 4 = some (.ldc 5, 6, 0) := by decide +kernel
theorem f58_6 : z_fetch 58 6 = some (.invokevirtual 54, 9, 0) := by decide +kernel
theorem f58_9 : z_fetch 58 9 = some (.istore 2, 10, 0) := by decide +kernel
theorem f58_10 : z_fetch 58 10 = some (.iload 2, 11, 0) := by decide +kernel
theorem f58_11 : z_fetch 58 11 = some (.ifCond .ne 0, 14, 23) := by decide +kernel
theorem f58_14 : z_fetch 58 14 = some (.aload 0, 15, 0) := by decide +kernel
theorem f58_15 : z_fetch 58 15 = some (.instanceof 8, 18, 0) := by decide +kernel
theorem f58_18 : z_fetch 58 18 = some (.iconst 0, 19, 0) := by decide +kernel
theorem f58_19 : z_fetch 58 19 = some (.invokevirtual 55, 22, 0) := by decide +kernel
theorem f58_22 : z_fetch 58 22 = some (.return_, 23, 0) := by decide +kernel
theorem f58_23 : z_fetch 58 23 = some (.iload 2, 24, 0) := by decide +kernel
theorem f58_24 : z_fetch 58 24 = some (.iconst 1, 25, 0) := by decide +kernel
theorem f58_25 : z_fetch 58 25 = some (.if_icmp .ne 0, 28, 32) := by decide +kernel
theorem f58_28 : z_fetch 58 28 = some (.iconst 1, 29, 0) := by decide +kernel
theorem f58_29 : z_fetch 58 29 = some (.goto 0, 32, 33) := by decide +kernel
theorem f58_32 : z_fetch 58 32 = some (.iconst 0, 33, 0) := by decide +kernel
theorem f58_33 : z_fetch 58 33 = some (.aload 0, 34, 0) := by decide +kernel
theorem f58_34 : z_fetch 58 34 = some (.getfield 8, 37, 1) := by decide +kernel
theorem f58_37 : z_fetch 58 37 = some (.ifCond .ne 0, 40, 44) := by decide +kernel
theorem f58_40 : z_fetch 58 40 = some (.iconst 1, 41, 0) := by decide +kernel
theorem f58_41 : z_fetch 58 41 = some (.goto 0, 44, 45) := by decide +kernel
theorem f58_44 : z_fetch 58 44 = some (.iconst 0, 45, 0) := by decide +kernel
theorem f58_45 : z_fetch 58 45 = some (.if_icmp .ne 0, 48, 57) := by decide +kernel
theorem f58_48 : z_fetch 58 48 = some (.aload 0, 49, 0) := by decide +kernel
theorem f58_49 : z_fetch 58 49 = some (.getfield 8, 52, 1) := by decide +kernel
theorem f58_52 : z_fetch 58 52 = some (.iconst 40, 54, 0) := by decide +kernel
theorem f58_54 : z_fetch 58 54 = some (.if_icmp .lt 0, 57, 61) := by decide +kernel
theorem f58_57 : z_fetch 58 57 = some (.iconst 1, 58, 0) := by decide +kernel
theorem f58_58 : z_fetch 58 58 = some (.goto 0, 61, 62) := by decide +kernel
theorem f58_61 : z_fetch 58 61 = some (.iconst 0, 62, 0) := by decide +kernel
theorem f58_62 : z_fetch 58 62 = some (.istore 3, 63, 0) := by decide +kernel
theorem f58_63 : z_fetch 58 63 = some (.iload 3, 64, 0) := by decide +kernel
theorem f58_64 : z_fetch 58 64 = some (.iload 2, 65, 0) := by decide +kernel
theorem f58_65 : z_fetch 58 65 = some (.iconst 2, 66, 0) := by decide +kernel
theorem f58_66 : z_fetch 58 66 = some (.if_icmp .ne 0, 69, 80) := by decide +kernel
theorem f58_69 : z_fetch 58 69 = some (.aload 0, 70, 0) := by decide +kernel
theorem f58_70 : z_fetch 58 70 = some (.getfield 8, 73, 2) := by decide +kernel
theorem f58_73 : z_fetch 58 73 = some (.ifCond .eq 0, 76, 80) := by decide +kernel
theorem f58_76 : z_fetch 58 76 = some (.iconst 1, 77, 0) := by decide +kernel
theorem f58_77 : z_fetch 58 77 = some (.goto 0, 80, 81) := by decide +kernel
theorem f58_80 : z_fetch 58 80 = some (.iconst 0, 81, 0) := by decide +kernel
theorem f58_81 : z_fetch 58 81 = some (.ior, 82, 0) := by decide +kernel
theorem f58_82 : z_fetch 58 82 = some (.istore 3, 83, 0) := by decide +kernel
theorem f58_83 : z_fetch 58 83 = some (.iload 3, 84, 0) := by decide +kernel
theorem f58_84 : z_fetch 58 84 = some (.iload 2, 85, 0) := by decide +kernel
theorem f58_85 : z_fetch 58 85 = some (.iconst 3, 86, 0) := by decide +kernel
theorem f58_86 : z_fetch 58 86 = some (.if_icmp .ne 0, 89, 102) := by decide +kernel
theorem f58_89 : z_fetch 58 89 = some (.aload 1, 90, 0) := by decide +kernel
theorem f58_90 : z_fetch 58 90 = some (.getfield 3, 93, 2) := by decide +kernel
theorem f58_93 : z_fetch 58 93 = some (.iconst 8, 95, 0) := by decide +kernel
theorem f58_95 : z_fetch 58 95 = some (.if_icmp .lt 0, 98, 102) := by decide +kernel
theorem f58_98 : z_fetch 58 98 = some (.iconst 1, 99, 0) := by decide +kernel
theorem f58_99 : z_fetch 58 99 = some (.goto 0, 102, 103) := by decide +kernel
theorem f58_102 : z_fetch 58 102 = some (.iconst 0, 103, 0) := by decide +kernel
theorem f58_103 : z_fetch 58 103 = some (.ior, 104, 0) := by decide +kernel
theorem f58_104 : z_fetch 58 104 = some (.istore 3, 105, 0) := by decide +kernel
theorem f58_105 : z_fetch 58 105 = some (.iload 3, 106, 0) := by decide +kernel
theorem f58_106 : z_fetch 58 106 = some (.iload 2, 107, 0) := by decide +kernel
theorem f58_107 : z_fetch 58 107 = some (.iconst 4, 108, 0) := by decide +kernel
theorem f58_108 : z_fetch 58 108 = some (.if_icmp .ne 0, 111, 124) := by decide +kernel
theorem f58_111 : z_fetch 58 111 = some (.aload 1, 112, 0) := by decide +kernel
theorem f58_112 : z_fetch 58 112 = some (.getfield 3, 115, 3) := by decide +kernel
theorem f58_115 : z_fetch 58 115 = some (.iconst 24, 117, 0) := by decide +kernel
theorem f58_117 : z_fetch 58 117 = some (.if_icmp .lt 0, 120, 124) := by decide +kernel
theorem f58_120 : z_fetch 58 120 = some (.iconst 1, 121, 0) := by decide +kernel
theorem f58_121 : z_fetch 58 121 = some (.goto 0, 124, 125) := by decide +kernel
theorem f58_124 : z_fetch 58 124 = some (.iconst 0, 125, 0) := by decide +kernel
theorem f58_125 : z_fetch 58 125 = some (.ior, 126, 0) := by decide +kernel
theorem f58_126 : z_fetch 58 126 = some (.istore 3, 127, 0) := by decide +kernel
theorem f58_127 : z_fetch 58 127 = some (.iload 3, 128, 0) := by decide +kernel
theorem f58_128 : z_fetch 58 128 = some (.ifCond .eq 0, 131, 140) := by decide +kernel
theorem f58_131 : z_fetch 58 131 = some (.aload 0, 132, 0) := by decide +kernel
theorem f58_132 : z_fetch 58 132 = some (.instanceof 8, 135, 0) := by decide +kernel
theorem f58_135 : z_fetch 58 135 = some (.iconst 4, 136, 0) := by decide +kernel
theorem f58_136 : z_fetch 58 136 = some (.invokevirtual 55, 139, 0) := by decide +kernel
theorem f58_139 : z_fetch 58 139 = some (.return_, 140, 0) := by decide +kernel
theorem f58_140 : z_fetch 58 140 = some (.aload 0, 141, 0) := by decide +kernel
theorem f58_141 : z_fetch 58 141 = some (.dup, 142, 0) := by decide +kernel
theorem f58_142 : z_fetch 58 142 = some (.getfield 8, 145, 1) := by decide +kernel
theorem f58_145 : z_fetch 58 145 = some (.iconst 1, 146, 0) := by decide +kernel
theorem f58_146 : z_fetch 58 146 = some (.iadd, 147, 0) := by decide +kernel
theorem f58_147 : z_fetch 58 147 = some (.putfield 8, 150, 1) := by decide +kernel
theorem f58_150 : z_fetch 58 150 = some (.aload 0, 151, 0) := by decide +kernel
theorem f58_151 : z_fetch 58 151 = some (.instanceof 8, 154, 0) := by decide +kernel
theorem f58_154 : z_fetch 58 154 = some (.invokevirtual 49, 157, 0) := by decide +kernel
theorem f58_157 : z_fetch 58 157 = some (.iload 2, 158, 0) := by decide +kernel
theorem f58_158 : z_fetch 58 158 = some (.tableswitch 0 1 3 #[184, 199, 220], 184, 228) := by decide +kernel
theorem f58_184 : z_fetch 58 184 = some (.aload 1, 185, 0) := by decide +kernel
theorem f58_185 : z_fetch 58 185 = some (.aload 0, 186, 0) := by decide +kernel
theorem f58_186 : z_fetch 58 186 = some (.iconst 2, 187, 0) := by decide +kernel
theorem f58_187 : z_fetch 58 187 = some (.iconst 10, 189, 0) := by decide +kernel
theorem f58_189 : z_fetch 58 189 = some (.iconst (-1), 190, 0) := by decide +kernel
theorem f58_190 : z_fetch 58 190 = some (.invokevirtual 61, 193, 0) := by decide +kernel
theorem f58_193 : z_fetch 58 193 = some (.putfield 3, 196, 0) := by decide +kernel
theorem f58_196 : z_fetch 58 196 = some (.goto 0, 199, 233) := by decide +kernel
theorem f58_199 : z_fetch 58 199 = some (.aload 0, 200, 0) := by decide +kernel
theorem f58_200 : z_fetch 58 200 = some (.iconst 1, 201, 0) := by decide +kernel
theorem f58_201 : z_fetch 58 201 = some (.ldc_w 8, 204, 2) := by decide +kernel
theorem f58_204 : z_fetch 58 204 = some (.aload 1, 205, 0) := by decide +kernel
theorem f58_205 : z_fetch 58 205 = some (.aload 0, 206, 0) := by decide +kernel
theorem f58_206 : z_fetch 58 206 = some (.iconst 1, 207, 0) := by decide +kernel
theorem f58_207 : z_fetch 58 207 = some (.iconst 999, 210, 0) := by decide +kernel
theorem f58_210 : z_fetch 58 210 = some (.iconst (-1), 211, 0) := by decide +kernel
theorem f58_211 : z_fetch 58 211 = some (.invokevirtual 61, 214, 0) := by decide +kernel
theorem f58_214 : z_fetch 58 214 = some (.putfield 3, 217, 1) := by decide +kernel
theorem f58_217 : z_fetch 58 217 = some (.goto 0, 220, 233) := by decide +kernel
theorem f58_220 : z_fetch 58 220 = some (.aload 0, 221, 0) := by decide +kernel
theorem f58_221 : z_fetch 58 221 = some (.aload 1, 222, 0) := by decide +kernel
theorem f58_222 : z_fetch 58 222 = some (.invokevirtual 59, 225, 0) := by decide +kernel
theorem f58_225 : z_fetch 58 225 = some (.goto 0, 228, 233) := by decide +kernel
theorem f58_228 : z_fetch 58 228 = some (.aload 0, 229, 0) := by decide +kernel
theorem f58_229 : z_fetch 58 229 = some (.aload 1, 230, 0) := by decide +kernel
theorem f58_230 : z_fetch 58 230 = some (.invokevirtual 60, 233, 0) := by decide +kernel
theorem f58_233 : z_fetch 58 233 = some (.return_, 234, 0) := by decide +kernel
theorem f59_0 : z_fetch 59 0 = some (.aload 0, 1, 0) := by decide +kernel
theorem f59_1 : z_fetch 59 1 = some (.iconst 1, 2, 0) := by decide +kernel
theorem f59_2 : z_fetch 59 2 = some (.iconst 99, 4, 0) := by decide +kernel
theorem f59_4 : z_fetch 59 4 = some (.iconst (-1), 5, 0) := by decide +kernel
theorem f59_5 : z_fetch 59 5 = some (.invokevirtual 61, 8, 0) := by decide +kernel
theorem f59_8 : z_fetch 59 8 = some (.istore 2, 9, 0) := by decide +kernel
theorem f59_9 : z_fetch 59 9 = some (.aload 0, 10, 0) := by decide +kernel
theorem f59_10 : z_fetch 59 10 = some (.iconst 0, 11, 0) := by decide +kernel
theorem f59_11 : z_fetch 59 11 = some (.aload 1, 12, 0) := by decide +kernel
theorem f59_12 : z_fetch 59 12 = some (.getfield 3, 15, 0) := by decide +kernel
theorem f59_15 : z_fetch 59 15 = some (.iconst 1, 16, 0) := by decide +kernel
theorem f59_16 : z_fetch 59 16 = some (.isub, 17, 0) := by decide +kernel
theorem f59_17 : z_fetch 59 17 = some (.iconst (-1), 18, 0) := by decide +kernel
theorem f59_18 : z_fetch 59 18 = some (.invokevirtual 61, 21, 0) := by decide +kernel
theorem f59_21 : z_fetch 59 21 = some (.istore 3, 22, 0) := by decide +kernel
theorem f59_22 : z_fetch 59 22 = some (.aload 0, 23, 0) := by decide +kernel
theorem f59_23 : z_fetch 59 23 = some (.iconst 0, 24, 0) := by decide +kernel
theorem f59_24 : z_fetch 59 24 = some (.iconst 999, 27, 0) := by decide +kernel
theorem f59_27 : z_fetch 59 27 = some (.iconst (-1), 28, 0) := by decide +kernel
theorem f59_28 : z_fetch 59 28 = some (.invokevirtual 61, 31, 0) := by decide +kernel
theorem f59_31 : z_fetch 59 31 = some (.istore 4, 33, 0) := by decide +kernel
theorem f59_33 : z_fetch 59 33 = some (.aload 1, 34, 0) := by decide +kernel
theorem f59_34 : z_fetch 59 34 = some (.iload 2, 35, 0) := by decide +kernel
theorem f59_35 : z_fetch 59 35 = some (.iload 3, 36, 0) := by decide +kernel
theorem f59_36 : z_fetch 59 36 = some (.iload 4, 38, 0) := by decide +kernel
theorem f59_38 : z_fetch 59 38 = some (.invokevirtual 19, 41, 0) := by decide +kernel
theorem f59_41 : z_fetch 59 41 = some (.return_, 42, 0) := by decide +kernel
theorem f60_0 : z_fetch 60 0 = some (.aload 0, 1, 0) := by decide +kernel
theorem f60_1 : z_fetch 60 1 = some (.iconst 0, 2, 0) := by decide +kernel
theorem f60_2 : z_fetch 60 2 = some (.iconst 1999, 5, 0) := by decide +kernel
theorem f60_5 : z_fetch 60 5 = some (.iconst (-1), 6, 0) := by decide +kernel
theorem f60_6 : z_fetch 60 6 = some (.invokevirtual 61, 9, 0) := by decide +kernel
theorem f60_9 : z_fetch 60 9 = some (.istore 2, 10, 0) := by decide +kernel
theorem f60_10 : z_fetch 60 10 = some (.aload 0, 11, 0) := by decide +kernel
theorem f60_11 : z_fetch 60 11 = some (.iconst 0, 12, 0) := by decide +kernel
theorem f60_12 : z_fetch 60 12 = some (.aload 1, 13, 0) := by decide +kernel
theorem f60_13 : z_fetch 60 13 = some (.getfield 3, 16, 0) := by decide +kernel
theorem f60_16 : z_fetch 60 16 = some (.iconst 1, 17, 0) := by decide +kernel
theorem f60_17 : z_fetch 60 17 = some (.isub, 18, 0) := by decide +kernel
theorem f60_18 : z_fetch 60 18 = some (.iconst (-1), 19, 0) := by decide +kernel
theorem f60_19 : z_fetch 60 19 = some (.invokevirtual 61, 22, 0) := by decide +kernel
theorem f60_22 : z_fetch 60 22 = some (.istore 3, 23, 0) := by decide +kernel
theorem f60_23 : z_fetch 60 23 = some (.aload 0, 24, 0) := by decide +kernel
theorem f60_24 : z_fetch 60 24 = some (.iconst 0, 25, 0) := by decide +kernel
theorem f60_25 : z_fetch 60 25 = some (.aload 1, 26, 0) := by decide +kernel
theorem f60_26 : z_fetch 60 26 = some (.getfield 3, 29, 0) := by decide +kernel
theorem f60_29 : z_fetch 60 29 = some (.iconst 1, 30, 0) := by decide +kernel
theorem f60_30 : z_fetch 60 30 = some (.isub, 31, 0) := by decide +kernel
theorem f60_31 : z_fetch 60 31 = some (.iload 3, 32, 0) := by decide +kernel
theorem f60_32 : z_fetch 60 32 = some (.invokevirtual 61, 35, 0) := by decide +kernel
theorem f60_35 : z_fetch 60 35 = some (.istore 4, 37, 0) := by decide +kernel
theorem f60_37 : z_fetch 60 37 = some (.aload 1, 38, 0) := by decide +kernel
theorem f60_38 : z_fetch 60 38 = some (.iload 2, 39, 0) := by decide +kernel
theorem f60_39 : z_fetch 60 39 = some (.iload 3, 40, 0) := by decide +kernel
theorem f60_40 : z_fetch 60 40 = some (.iload 4, 42, 0) := by decide +kernel
theorem f60_42 : z_fetch 60 42 = some (.invokevirtual 20, 45, 0) := by decide +kernel
theorem f60_45 : z_fetch 60 45 = some (.return_, 46, 0) := by decide +kernel
theorem f61_0 : z_fetch 61 0 = some (.aload 0, 1, 0) := by decide +kernel
theorem f61_1 : z_fetch 61 1 = some (.instanceof 8, 4, 0) := by decide +kernel
theorem f61_4 : z_fetch 61 4 = some (.invokevirtual 51, 7, 0) := by decide +kernel
theorem f61_7 : z_fetch 61 7 = some (.ifCond .ne 0, 10, 20) := by decide +kernel
theorem f61_10 : z_fetch 61 10 = some (.aload 0, 11, 0) := by decide +kernel
theorem f61_11 : z_fetch 61 11 = some (.instanceof 8, 14, 0) := by decide +kernel
theorem f61_14 : z_fetch 61 14 = some (.iconst 0, 15, 0) := by decide +kernel
theorem f61_15 : z_fetch 61 15 = some (.invokevirtual 55, 18, 0) := by decide +kernel
theorem f61_18 : z_fetch 61 18 = some (.iconst 0, 19, 0) := by decide +kernel
theorem f61_19 : z_fetch 61 19 = some (.ireturn, 20, 0) := by decide +kernel
theorem f61_20 : z_fetch 61 20 = some (.aload 0, 21, 0) := by decide +kernel
theorem f61_21 : z_fetch 61 21 = some (.instanceof 8, 24, 0) := by decide +kernel
theorem f61_24 : z_fetch 61 24 = some (.getfield 7, 27, 6) := by decide +kernel
theorem f61_27 : z_fetch 61 27 = some (.istore 4, 29, 0) := by decide +kernel
theorem f61_29 : z_fetch 61 29 = some (.iload 4, 31, 0) := by decide +kernel
theorem f61_31 : z_fetch 61 31 = some (.iload 1, 32, 0) := by decide +kernel
theorem f61_32 : z_fetch 61 32 = some (.if_icmp .lt 0, 35, 47) := by decide +kernel
theorem f61_35 : z_fetch 61 35 = some (.iload 4, 37, 0) := by decide +kernel
theorem f61_37 : z_fetch 61 37 = some (.iload 2, 38, 0) := by decide +kernel
theorem f61_38 : z_fetch 61 38 = some (.if_icmp .gt 0, 41, 47) := by decide +kernel
theorem f61_41 : z_fetch 61 41 = some (.iload 4, 43, 0) := by decide +kernel
theorem f61_43 : z_fetch 61 43 = some (.iload 3, 44, 0) := by decide +kernel
theorem f61_44 : z_fetch 61 44 = some (.if_icmp .ne 0, 47, 57) := by decide +kernel
theorem f61_47 : z_fetch 61 47 = some (.aload 0, 48, 0) := by decide +kernel
theorem f61_48 : z_fetch 61 48 = some (.instanceof 8, 51, 0) := by decide +kernel
theorem f61_51 : z_fetch 61 51 = some (.iconst 1, 52, 0) := by decide +kernel
theorem f61_52 : z_fetch 61 52 = some (.invokevirtual 55, 55, 0) := by decide +kernel
theorem f61_55 : z_fetch 61 55 = some (.iconst 0, 56, 0) := by decide +kernel
theorem f61_56 : z_fetch 61 56 = some (.ireturn, 57, 0) := by decide +kernel
theorem f61_57 : z_fetch 61 57 = some (.aload 0, 58, 0) := by decide +kernel
theorem f61_58 : z_fetch 61 58 = some (.instanceof 8, 61, 0) := by decide +kernel
theorem f61_61 : z_fetch 61 61 = some (.invokevirtual 49, 64, 0) := by decide +kernel
theorem f61_64 : z_fetch 61 64 = some (.iload 4, 66, 0) := by decide +kernel
theorem f61_66 : z_fetch 61 66 = some (.ireturn, 67, 0) := by decide +kernel
theorem f62_0 : z_fetch 62 0 = some (.aload 0, 1, 0) := by decide +kernel
theorem f62_1 : z_fetch 62 1 = some (.monitorenter, 4, 0) := by decide +kernel
theorem f62_4 : z_fetch 62 4 = some (.aload 0, 5, 0) := by decide +kernel
theorem f62_5 : z_fetch 62 5 = some (.iconst 24, 7, 0) := by decide +kernel
theorem f62_7 : z_fetch 62 7 = some (.newarray .int, 9, 0) := by decide +kernel
theorem f62_9 : z_fetch 62 9 = some (.putstatic 9, 12, 7) := by decide +kernel
theorem f62_12 : z_fetch 62 12 = some (.aload 0, 13, 0) := by decide +kernel
theorem f62_13 : z_fetch 62 13 = some (.iconst 24, 15, 0) := by decide +kernel
theorem f62_15 : z_fetch 62 15 = some (.newarray .int, 17, 0) := by decide +kernel
theorem f62_17 : z_fetch 62 17 = some (.putstatic 9, 20, 8) := by decide +kernel
theorem f62_20 : z_fetch 62 20 = some (.aload 0, 21, 0) := by decide +kernel
theorem f62_21 : z_fetch 62 21 = some (.iconst 10, 23, 0) := by decide +kernel
theorem f62_23 : z_fetch 62 23 = some (.newarray .int, 25, 0) := by decide +kernel
theorem f62_25 : z_fetch 62 25 = some (.putstatic 9, 28, 10) := by decide +kernel
theorem f62_28 : z_fetch 62 28 = some (.aload 0, 29, 0) := by decide +kernel
theorem f62_29 : z_fetch 62 29 = some (.aload 1, 30, 0) := by decide +kernel
theorem f62_30 : z_fetch 62 30 = some (.putstatic 9, 33, 0) := by decide +kernel
theorem f62_33 : z_fetch 62 33 = some (.aload 0, 34, 0) := by decide +kernel
theorem f62_34 : z_fetch 62 34 = some (.aload 2, 35, 0) := by decide +kernel
theorem f62_35 : z_fetch 62 35 = some (.putstatic 9, 38, 1) := by decide +kernel
theorem f62_38 : z_fetch 62 38 = some (.aload 0, 39, 0) := by decide +kernel
theorem f62_39 : z_fetch 62 39 = some (.new 1, 42, 0) := by decide +kernel
theorem f62_42 : z_fetch 62 42 = some (.dup, 43, 0) := by decide +kernel
theorem f62_43 : z_fetch 62 43 = some (.invokespecial 8, 46, 0) := by decide +kernel
theorem f62_46 : z_fetch 62 46 = some (.putstatic 9, 49, 3) := by decide +kernel
theorem f62_49 : z_fetch 62 49 = some (.return_, 50, 0) := by decide +kernel
theorem f63_0 : z_fetch 63 0 = some (.aload 0, 1, 0) := by decide +kernel
theorem f63_1 : z_fetch 63 1 = some (.aload 1, 2, 0) := by decide +kernel
theorem f63_2 : z_fetch 63 2 = some (.putstatic 9, 5, 2) := by decide +kernel
theorem f63_5 : z_fetch 63 5 = some (.aload 0, 6, 0) := by decide +kernel
theorem f63_6 : z_fetch 63 6 = some (.aload 2, 7, 0) := by decide +kernel
theorem f63_7 : z_fetch 63 7 = some (.putstatic 9, 10, 3) := by decide +kernel
theorem f63_10 : z_fetch 63 10 = some (.aload 0, 11, 0) := by decide +kernel
theorem f63_11 : z_fetch 63 11 = some (.iload 3, 12, 0) := by decide +kernel
theorem f63_12 : z_fetch 63 12 = some (.putfield 9, 15, 4) := by decide +kernel
theorem f63_15 : z_fetch 63 15 = some (.aload 0, 16, 0) := by decide +kernel
theorem f63_16 : z_fetch 63 16 = some (.iload 4, 18, 0) := by decide +kernel
theorem f63_18 : z_fetch 63 18 = some (.putfield 9, 21, 5) := by decide +kernel
theorem f63_21 : z_fetch 63 21 = some (.aload 0, 22, 0) := by decide +kernel
theorem f63_22 : z_fetch 63 22 = some (.aload 0, 23, 0) := by decide +kernel
theorem f63_23 : z_fetch 63 23 = some (.iload 4, 25, 0) := by decide +kernel
theorem f63_25 : z_fetch 63 25 = some (.invokevirtual 64, 28, 0) := by decide +kernel
theorem f63_28 : z_fetch 63 28 = some (.ifCond .eq 0, 31, 59) := by decide +kernel
theorem f63_31 : z_fetch 63 31 = some (.aload 2, 32, 0) := by decide +kernel
theorem f63_32 : z_fetch 63 32 = some (.getfield 1, 35, 4) := by decide +kernel
theorem f63_35 : z_fetch 63 35 = some (.ifCond .eq 0, 38, 59) := by decide +kernel
theorem f63_38 : z_fetch 63 38 = some (.aload 0, 39, 0) := by decide +kernel
theorem f63_39 : z_fetch 63 39 = some (.aload 2, 40, 0) := by decide +kernel
theorem f63_40 : z_fetch 63 40 = some (.getfield 1, 43, 1) := by decide +kernel
theorem f63_43 : z_fetch 63 43 = some (.aload 2, 44, 0) := by decide +kernel
theorem f63_44 : z_fetch 63 44 = some (.getfield 1, 47, 3) := by decide +kernel
theorem f63_47 : z_fetch 63 47 = some (.iload 4, 49, 0) := by decide +kernel
theorem f63_49 : z_fetch 63 49 = some (.invokevirtual 66, 52, 0) := by decide +kernel
theorem f63_52 : z_fetch 63 52 = some (.ifCond .eq 0, 55, 59) := by decide +kernel
theorem f63_55 : z_fetch 63 55 = some (.iconst 1, 56, 0) := by decide +kernel
theorem f63_56 : z_fetch 63 56 = some (.goto 0, 59, 60) := by decide +kernel
theorem f63_59 : z_fetch 63 59 = some (.iconst 0, 60, 0) := by decide +kernel
theorem f63_60 : z_fetch 63 60 = some (.ldc_w 9, 63, 6) := by decide +kernel
theorem f63_63 : z_fetch 63 63 = some (.aload 0, 64, 0) := by decide +kernel
theorem f63_64 : z_fetch 63 64 = some (.instanceof 9, 67, 1) := by decide +kernel
theorem f63_67 : z_fetch 63 67 = some (.instanceof 6, 70, 0) := by decide +kernel
theorem f63_70 : z_fetch 63 70 = some (.astore 5, 72, 0) := by decide +kernel
theorem f63_72 : z_fetch 63 72 = some (.iconst 0, 73, 0) := by decide +kernel
theorem f63_73 : z_fetch 63 73 = some (.istore 6, 75, 0) := by decide +kernel
theorem f63_75 : z_fetch 63 75 = some (.iload 6, 77, 0) := by decide +kernel
theorem f63_77 : z_fetch 63 77 = some (.aload 5, 79, 0) := by decide +kernel
theorem f63_79 : z_fetch 63 79 = some (.getfield 3, 82, 3) := by decide +kernel
theorem f63_82 : z_fetch 63 82 = some (.if_icmp .ge 0, 85, 219) := by decide +kernel
theorem f63_85 : z_fetch 63 85 = some (.aload 5, 87, 0) := by decide +kernel
theorem f63_87 : z_fetch 63 87 = some (.instanceof 3, 90, 10) := by decide +kernel
theorem f63_90 : z_fetch 63 90 = some (.iload 6, 92, 0) := by decide +kernel
theorem f63_92 : z_fetch 63 92 = some (.iaload, 93, 0) := by decide +kernel
theorem f63_93 : z_fetch 63 93 = some (.istore 7, 95, 0) := by decide +kernel
theorem f63_95 : z_fetch 63 95 = some (.aload 5, 97, 0) := by decide +kernel
theorem f63_97 : z_fetch 63 97 = some (.instanceof 3, 100, 7) := by decide +kernel
theorem f63_100 : z_fetch 63 100 = some (.iload 7, 102, 0) := by decide +kernel
theorem f63_102 : z_fetch 63 102 = some (.iaload, 103, 0) := by decide +kernel
theorem f63_103 : z_fetch 63 103 = some (.istore 8, 105, 0) := by decide +kernel
theorem f63_105 : z_fetch 63 105 = some (.aload 0, 106, 0) := by decide +kernel
theorem f63_106 : z_fetch 63 106 = some (.iload 4, 108, 0) := by decide +kernel
theorem f63_108 : z_fetch 63 108 = some (.invokevirtual 64, 111, 0) := by decide +kernel
theorem f63_111 : z_fetch 63 111 = some (.ifCond .eq 0, 114, 134) := by decide +kernel
theorem f63_114 : z_fetch 63 114 = some (.iload 8, 116, 0) := by decide +kernel
theorem f63_116 : z_fetch 63 116 = some (.iload 4, 118, 0) := by decide +kernel
theorem f63_118 : z_fetch 63 118 = some (.if_icmp .lt 0, 121, 134) := by decide +kernel
theorem f63_121 : z_fetch 63 121 = some (.aload 0, 122, 0) := by decide +kernel
theorem f63_122 : z_fetch 63 122 = some (.iload 8, 124, 0) := by decide +kernel
theorem f63_124 : z_fetch 63 124 = some (.invokevirtual 64, 127, 0) := by decide +kernel
theorem f63_127 : z_fetch 63 127 = some (.ifCond .eq 0, 130, 134) := by decide +kernel
theorem f63_130 : z_fetch 63 130 = some (.iconst 1, 131, 0) := by decide +kernel
theorem f63_131 : z_fetch 63 131 = some (.goto 0, 134, 135) := by decide +kernel
theorem f63_134 : z_fetch 63 134 = some (.iconst 0, 135, 0) := by decide +kernel
theorem f63_135 : z_fetch 63 135 = some (.istore 9, 137, 0) := by decide +kernel
theorem f63_137 : z_fetch 63 137 = some (.aload 0, 138, 0) := by decide +kernel
theorem f63_138 : z_fetch 63 138 = some (.instanceof 9, 141, 7) := by decide +kernel
theorem f63_141 : z_fetch 63 141 = some (.iload 6, 143, 0) := by decide +kernel
theorem f63_143 : z_fetch 63 143 = some (.iload 9, 145, 0) := by decide +kernel
theorem f63_145 : z_fetch 63 145 = some (.ifCond .eq 0, 148, 173) := by decide +kernel
theorem f63_148 : z_fetch 63 148 = some (.aload 0, 149, 0) := by decide +kernel
theorem f63_149 : z_fetch 63 149 = some (.aload 5, 151, 0) := by decide +kernel
theorem f63_151 : z_fetch 63 151 = some (.instanceof 3, 154, 8) := by decide +kernel
theorem f63_154 : z_fetch 63 154 = some (.iload 7, 156, 0) := by decide +kernel
theorem f63_156 : z_fetch 63 156 = some (.iaload, 157, 0) := by decide +kernel
theorem f63_157 : z_fetch 63 157 = some (.aload 5, 159, 0) := by decide +kernel
theorem f63_159 : z_fetch 63 159 = some (.instanceof 3, 162, 9) := by decide +kernel
theorem f63_162 : z_fetch 63 162 = some (.iload 7, 164, 0) := by decide +kernel
theorem f63_164 : z_fetch 63 164 = some (.iaload, 165, 0) := by decide +kernel
theorem f63_165 : z_fetch 63 165 = some (.iload 8, 167, 0) := by decide +kernel
theorem f63_167 : z_fetch 63 167 = some (.invokevirtual 65, 170, 0) := by decide +kernel
theorem f63_170 : z_fetch 63 170 = some (.goto 0, 173, 174) := by decide +kernel
theorem f63_173 : z_fetch 63 173 = some (.iconst 0, 174, 0) := by decide +kernel
theorem f63_174 : z_fetch 63 174 = some (.iastore, 175, 0) := by decide +kernel
theorem f63_175 : z_fetch 63 175 = some (.aload 0, 176, 0) := by decide +kernel
theorem f63_176 : z_fetch 63 176 = some (.instanceof 9, 179, 8) := by decide +kernel
theorem f63_179 : z_fetch 63 179 = some (.iload 6, 181, 0) := by decide +kernel
theorem f63_181 : z_fetch 63 181 = some (.iload 9, 183, 0) := by decide +kernel
theorem f63_183 : z_fetch 63 183 = some (.ifCond .eq 0, 186, 211) := by decide +kernel
theorem f63_186 : z_fetch 63 186 = some (.aload 0, 187, 0) := by decide +kernel
theorem f63_187 : z_fetch 63 187 = some (.aload 5, 189, 0) := by decide +kernel
theorem f63_189 : z_fetch 63 189 = some (.instanceof 3, 192, 9) := by decide +kernel
theorem f63_192 : z_fetch 63 192 = some (.iload 7, 194, 0) := by decide +kernel
theorem f63_194 : z_fetch 63 194 = some (.iaload, 195, 0) := by decide +kernel
theorem f63_195 : z_fetch 63 195 = some (.aload 5, 197, 0) := by decide +kernel
theorem f63_197 : z_fetch 63 197 = some (.instanceof 3, 200, 8) := by decide +kernel
theorem f63_200 : z_fetch 63 200 = some (.iload 7, 202, 0) := by decide +kernel
theorem f63_202 : z_fetch 63 202 = some (.iaload, 203, 0) := by decide +kernel
theorem f63_203 : z_fetch 63 203 = some (.iload 8, 205, 0) := by decide +kernel
theorem f63_205 : z_fetch 63 205 = some (.invokevirtual 65, 208, 0) := by decide +kernel
theorem f63_208 : z_fetch 63 208 = some (.goto 0, 211, 212) := by decide +kernel
theorem f63_211 : z_fetch 63 211 = some (.iconst 0, 212, 0) := by decide +kernel
theorem f63_212 : z_fetch 63 212 = some (.iastore, 213, 0) := by decide +kernel
theorem f63_213 : z_fetch 63 213 = some (.iinc 6 1, 216, 0) := by decide +kernel
theorem f63_216 : z_fetch 63 216 = some (.goto 0, 219, 75) := by decide +kernel
theorem f63_219 : z_fetch 63 219 = some (.return_, 220, 0) := by decide +kernel
