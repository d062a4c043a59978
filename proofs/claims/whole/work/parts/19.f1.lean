theorem f64_0 : z_fetch 64 0 = some (.iload 1, 1, 0) := by decide +kernel
theorem f64_1 : z_fetch 64 1 = some (.aload 0, 2, 0) := by decide +kernel
theorem f64_2 : z_fetch 64 2 = some (.instanceof 9, 5, 3) := by decide +kernel
theorem f64_5 : z_fetch 64 5 = some (.getfield 1, 8, 2) := by decide +kernel
theorem f64_8 : z_fetch 64 8 = some (.isub, 9, 0) := by decide +kernel
theorem f64_9 : z_fetch 64 9 = some (.aload 0, 10, 0) := by decide +kernel
theorem f64_10 : z_fetch 64 10 = some (.instanceof 9, 13, 1) := by decide +kernel
theorem f64_13 : z_fetch 64 13 = some (.instanceof 6, 16, 0) := by decide +kernel
theorem f64_16 : z_fetch 64 16 = some (.getfield 3, 19, 1) := by decide +kernel
theorem f64_19 : z_fetch 64 19 = some (.if_icmp .gt 0, 22, 26) := by decide +kernel
theorem f64_22 : z_fetch 64 22 = some (.iconst 1, 23, 0) := by decide +kernel
theorem f64_23 : z_fetch 64 23 = some (.goto 0, 26, 27) := by decide +kernel
theorem f64_26 : z_fetch 64 26 = some (.iconst 0, 27, 0) := by decide +kernel
theorem f64_27 : z_fetch 64 27 = some (.ireturn, 28, 1) := by decide +kernel
theorem f65_0 : z_fetch 65 0 = some (.aload 0, 1, 0) := by decide +kernel
theorem f65_1 : z_fetch 65 1 = some (.instanceof 9, 4, 3) := by decide +kernel
theorem f65_4 : z_fetch 65 4 = some (.getfield 1, 7, 3) := by decide +kernel
theorem f65_7 : z_fetch 65 7 = some (.iload 1, 8, 0) := by decide +kernel
theorem f65_8 : z_fetch 65 8 = some (.invokestatic 98, 11, 0) := by decide +kernel
theorem f65_11 : z_fetch 65 11 = some (.ifCond .ne 0, 14, 16) := by decide +kernel
theorem f65_14 : z_fetch 65 14 = some (.iconst 0, 15, 0) := by decide +kernel
theorem f65_15 : z_fetch 65 15 = some (.ireturn, 16, 0) := by decide +kernel
theorem f65_16 : z_fetch 65 16 = some (.aload 0, 17, 0) := by decide +kernel
theorem f65_17 : z_fetch 65 17 = some (.instanceof 9, 20, 3) := by decide +kernel
theorem f65_20 : z_fetch 65 20 = some (.getfield 1, 23, 3) := by decide +kernel
theorem f65_23 : z_fetch 65 23 = some (.iload 2, 24, 0) := by decide +kernel
theorem f65_24 : z_fetch 65 24 = some (.invokestatic 98, 27, 0) := by decide +kernel
theorem f65_27 : z_fetch 65 27 = some (.ifCond .ne 0, 30, 34) := by decide +kernel
theorem f65_30 : z_fetch 65 30 = some (.iconst 1, 31, 0) := by decide +kernel
theorem f65_31 : z_fetch 65 31 = some (.goto 0, 34, 35) := by decide +kernel
theorem f65_34 : z_fetch 65 34 = some (.iconst 0, 35, 0) := by decide +kernel
theorem f65_35 : z_fetch 65 35 = some (.istore 4, 37, 0) := by decide +kernel
theorem f65_37 : z_fetch 65 37 = some (.aload 0, 38, 0) := by decide +kernel
theorem f65_38 : z_fetch 65 38 = some (.instanceof 9, 41, 2) := by decide +kernel
theorem f65_41 : z_fetch 65 41 = some (.ifnull 0, 44, 110) := by decide +kernel
theorem f65_44 : z_fetch 65 44 = some (.aload 0, 45, 0) := by decide +kernel
theorem f65_45 : z_fetch 65 45 = some (.instanceof 9, 48, 0) := by decide +kernel
theorem f65_48 : z_fetch 65 48 = some (.aload 0, 49, 0) := by decide +kernel
theorem f65_49 : z_fetch 65 49 = some (.instanceof 9, 52, 3) := by decide +kernel
theorem f65_52 : z_fetch 65 52 = some (.aload 0, 53, 0) := by decide +kernel
theorem f65_53 : z_fetch 65 53 = some (.getfield 9, 56, 4) := by decide +kernel
theorem f65_56 : z_fetch 65 56 = some (.iload 3, 57, 0) := by decide +kernel
theorem f65_57 : z_fetch 65 57 = some (.invokevirtual 3, 60, 0) := by decide +kernel
theorem f65_60 : z_fetch 65 60 = some (.aload 0, 61, 0) := by decide +kernel
theorem f65_61 : z_fetch 65 61 = some (.instanceof 9, 64, 0) := by decide +kernel
theorem f65_64 : z_fetch 65 64 = some (.iload 1, 65, 0) := by decide +kernel
theorem f65_65 : z_fetch 65 65 = some (.iload 2, 66, 0) := by decide +kernel
theorem f65_66 : z_fetch 65 66 = some (.aload 0, 67, 0) := by decide +kernel
theorem f65_67 : z_fetch 65 67 = some (.instanceof 9, 70, 1) := by decide +kernel
theorem f65_70 : z_fetch 65 70 = some (.iload 1, 71, 0) := by decide +kernel
theorem f65_71 : z_fetch 65 71 = some (.invokevirtual 40, 74, 0) := by decide +kernel
theorem f65_74 : z_fetch 65 74 = some (.invokevirtual 4, 77, 0) := by decide +kernel
theorem f65_77 : z_fetch 65 77 = some (.aload 0, 78, 0) := by decide +kernel
theorem f65_78 : z_fetch 65 78 = some (.instanceof 9, 81, 0) := by decide +kernel
theorem f65_81 : z_fetch 65 81 = some (.aload 0, 82, 0) := by decide +kernel
theorem f65_82 : z_fetch 65 82 = some (.instanceof 9, 85, 3) := by decide +kernel
theorem f65_85 : z_fetch 65 85 = some (.getfield 1, 88, 3) := by decide +kernel
theorem f65_88 : z_fetch 65 88 = some (.iload 4, 90, 0) := by decide +kernel
theorem f65_90 : z_fetch 65 90 = some (.invokevirtual 5, 93, 0) := by decide +kernel
theorem f65_93 : z_fetch 65 93 = some (.aload 0, 94, 0) := by decide +kernel
theorem f65_94 : z_fetch 65 94 = some (.instanceof 9, 97, 2) := by decide +kernel
theorem f65_97 : z_fetch 65 97 = some (.iconst 2, 98, 0) := by decide +kernel
theorem f65_98 : z_fetch 65 98 = some (.aload 0, 99, 0) := by decide +kernel
theorem f65_99 : z_fetch 65 99 = some (.instanceof 9, 102, 0) := by decide +kernel
theorem f65_102 : z_fetch 65 102 = some (.invokevirtual 22, 105, 0) := by decide +kernel
theorem f65_105 : z_fetch 65 105 = some (.ifCond .eq 0, 108, 110) := by decide +kernel
theorem f65_108 : z_fetch 65 108 = some (.iconst 0, 109, 0) := by decide +kernel
theorem f65_109 : z_fetch 65 109 = some (.ireturn, 110, 0) := by decide +kernel
theorem f65_110 : z_fetch 65 110 = some (.iload 4, 112, 0) := by decide +kernel
theorem f65_112 : z_fetch 65 112 = some (.ifCond .ne 0, 115, 117) := by decide +kernel
theorem f65_115 : z_fetch 65 115 = some (.iconst 1, 116, 0) := by decide +kernel
theorem f65_116 : z_fetch 65 116 = some (.ireturn, 117, 0) := by decide +kernel
theorem f65_117 : z_fetch 65 117 = some (.aload 0, 118, 0) := by decide +kernel
theorem f65_118 : z_fetch 65 118 = some (.iload 2, 119, 0) := by decide +kernel
theorem f65_119 : z_fetch 65 119 = some (.aload 0, 120, 0) := by decide +kernel
theorem f65_120 : z_fetch 65 120 = some (.instanceof 9, 123, 3) := by decide +kernel
theorem f65_123 : z_fetch 65 123 = some (.getfield 1, 126, 3) := by decide +kernel
theorem f65_126 : z_fetch 65 126 = some (.iconst 1, 127, 0) := by decide +kernel
theorem f65_127 : z_fetch 65 127 = some (.iload 2, 128, 0) := by decide +kernel
theorem f65_128 : z_fetch 65 128 = some (.ishl, 129, 0) := by decide +kernel
theorem f65_129 : z_fetch 65 129 = some (.ior, 130, 0) := by decide +kernel
theorem f65_130 : z_fetch 65 130 = some (.iload 3, 131, 0) := by decide +kernel
theorem f65_131 : z_fetch 65 131 = some (.invokevirtual 66, 134, 0) := by decide +kernel
theorem f65_134 : z_fetch 65 134 = some (.ifCond .eq 0, 137, 141) := by decide +kernel
theorem f65_137 : z_fetch 65 137 = some (.iconst 2, 138, 0) := by decide +kernel
theorem f65_138 : z_fetch 65 138 = some (.goto 0, 141, 142) := by decide +kernel
theorem f65_141 : z_fetch 65 141 = some (.iconst 0, 142, 0) := by decide +kernel
theorem f65_142 : z_fetch 65 142 = some (.ireturn, 143, 0) := by decide +kernel
theorem f66_0 : z_fetch 66 0 = some (.aload 0, 1, 0) := by decide +kernel
theorem f66_1 : z_fetch 66 1 = some (.instanceof 9, 4, 2) := by decide +kernel
theorem f66_4 : z_fetch 66 4 = some (.ifnonnull 0, 7, 9) := by decide +kernel
theorem f66_7 : z_fetch 66 7 = some (.iconst 1, 8, 0) := by decide +kernel
theorem f66_8 : z_fetch 66 8 = some (.ireturn, 9, 1) := by decide +kernel
theorem f66_9 : z_fetch 66 9 = some (.aload 0, 10, 0) := by decide +kernel
theorem f66_10 : z_fetch 66 10 = some (.instanceof 9, 13, 0) := by decide +kernel
theorem f66_13 : z_fetch 66 13 = some (.aload 0, 14, 0) := by decide +kernel
theorem f66_14 : z_fetch 66 14 = some (.instanceof 9, 17, 3) := by decide +kernel
theorem f66_17 : z_fetch 66 17 = some (.aload 0, 18, 0) := by decide +kernel
theorem f66_18 : z_fetch 66 18 = some (.getfield 9, 21, 4) := by decide +kernel
theorem f66_21 : z_fetch 66 21 = some (.iload 3, 22, 0) := by decide +kernel
theorem f66_22 : z_fetch 66 22 = some (.invokevirtual 3, 25, 0) := by decide +kernel
theorem f66_25 : z_fetch 66 25 = some (.aload 0, 26, 0) := by decide +kernel
theorem f66_26 : z_fetch 66 26 = some (.instanceof 9, 29, 0) := by decide +kernel
theorem f66_29 : z_fetch 66 29 = some (.iload 1, 30, 0) := by decide +kernel
theorem f66_30 : z_fetch 66 30 = some (.iload 1, 31, 0) := by decide +kernel
theorem f66_31 : z_fetch 66 31 = some (.aload 0, 32, 0) := by decide +kernel
theorem f66_32 : z_fetch 66 32 = some (.instanceof 9, 35, 1) := by decide +kernel
theorem f66_35 : z_fetch 66 35 = some (.iload 1, 36, 0) := by decide +kernel
theorem f66_36 : z_fetch 66 36 = some (.invokevirtual 40, 39, 0) := by decide +kernel
theorem f66_39 : z_fetch 66 39 = some (.invokevirtual 4, 42, 0) := by decide +kernel
theorem f66_42 : z_fetch 66 42 = some (.aload 0, 43, 0) := by decide +kernel
theorem f66_43 : z_fetch 66 43 = some (.instanceof 9, 46, 0) := by decide +kernel
theorem f66_46 : z_fetch 66 46 = some (.iload 2, 47, 0) := by decide +kernel
theorem f66_47 : z_fetch 66 47 = some (.iconst 1, 48, 0) := by decide +kernel
theorem f66_48 : z_fetch 66 48 = some (.invokevirtual 5, 51, 0) := by decide +kernel
theorem f66_51 : z_fetch 66 51 = some (.aload 0, 52, 0) := by decide +kernel
theorem f66_52 : z_fetch 66 52 = some (.instanceof 9, 55, 2) := by decide +kernel
theorem f66_55 : z_fetch 66 55 = some (.iconst 2, 56, 0) := by decide +kernel
theorem f66_56 : z_fetch 66 56 = some (.aload 0, 57, 0) := by decide +kernel
theorem f66_57 : z_fetch 66 57 = some (.instanceof 9, 60, 0) := by decide +kernel
theorem f66_60 : z_fetch 66 60 = some (.invokevirtual 22, 63, 0) := by decide +kernel
theorem f66_63 : z_fetch 66 63 = some (.ifCond .ne 0, 66, 70) := by decide +kernel
theorem f66_66 : z_fetch 66 66 = some (.iconst 1, 67, 0) := by decide +kernel
theorem f66_67 : z_fetch 66 67 = some (.goto 0, 70, 71) := by decide +kernel
theorem f66_70 : z_fetch 66 70 = some (.iconst 0, 71, 0) := by decide +kernel
theorem f66_71 : z_fetch 66 71 = some (.ireturn, 72, 1) := by decide +kernel
theorem f67_0 : z_fetch 67 0 = some (.aload 0, 1, 0) := by decide +kernel
theorem f67_1 : z_fetch 67 1 = some (.aload 0, 2, 0) := by decide +kernel
theorem f67_2 : z_fetch 67 2 = some (.getfield 9, 5, 5) := by decide +kernel
theorem f67_5 : z_fetch 67 5 = some (.invokevirtual 64, 8, 0) := by decide +kernel
theorem f67_8 : z_fetch 67 8 = some (.ifCond .eq 0, 11, 25) := by decide +kernel
theorem f67_11 : z_fetch 67 11 = some (.aload 0, 12, 0) := by decide +kernel
theorem f67_12 : z_fetch 67 12 = some (.iload 1, 13, 0) := by decide +kernel
theorem f67_13 : z_fetch 67 13 = some (.invokevirtual 68, 16, 0) := by decide +kernel
theorem f67_16 : z_fetch 67 16 = some (.iconst (-2), 18, 0) := by decide +kernel
theorem f67_18 : z_fetch 67 18 = some (.if_icmp .ne 0, 21, 25) := by decide +kernel
theorem f67_21 : z_fetch 67 21 = some (.iconst 1, 22, 0) := by decide +kernel
theorem f67_22 : z_fetch 67 22 = some (.goto 0, 25, 26) := by decide +kernel
theorem f67_25 : z_fetch 67 25 = some (.iconst 0, 26, 0) := by decide +kernel
theorem f67_26 : z_fetch 67 26 = some (.ireturn, 27, 1) := by decide +kernel
theorem f68_0 : z_fetch 68 0 = some (.aload 0, 1, 0) := by decide +kernel
theorem f68_1 : z_fetch 68 1 = some (.iconst 1, 2, 0) := by decide +kernel
theorem f68_2 : z_fetch 68 2 = some (.aload 0, 3, 0) := by decide +kernel
theorem f68_3 : z_fetch 68 3 = some (.instanceof 9, 6, 3) := by decide +kernel
theorem f68_6 : z_fetch 68 6 = some (.getfield 1, 9, 1) := by decide +kernel
theorem f68_9 : z_fetch 68 9 = some (.ishl, 10, 0) := by decide +kernel
theorem f68_10 : z_fetch 68 10 = some (.putfield 9, 13, 9) := by decide +kernel
theorem f68_13 : z_fetch 68 13 = some (.aload 0, 14, 0) := by decide +kernel
theorem f68_14 : z_fetch 68 14 = some (.getfield 9, 17, 6) := by decide +kernel
theorem f68_17 : z_fetch 68 17 = some (.ifCond .eq 0, 20, 25) := by decide +kernel
theorem f68_20 : z_fetch 68 20 = some (.aload 0, 21, 0) := by decide +kernel
theorem f68_21 : z_fetch 68 21 = some (.getfield 9, 24, 5) := by decide +kernel
theorem f68_24 : z_fetch 68 24 = some (.ireturn, 25, 0) := by decide +kernel
theorem f68_25 : z_fetch 68 25 = some (.aload 0, 26, 0) := by decide +kernel
theorem f68_26 : z_fetch 68 26 = some (.instanceof 9, 29, 1) := by decide +kernel
theorem f68_29 : z_fetch 68 29 = some (.instanceof 6, 32, 0) := by decide +kernel
theorem f68_32 : z_fetch 68 32 = some (.astore 2, 33, 0) := by decide +kernel
theorem f68_33 : z_fetch 68 33 = some (.iconst 0, 34, 0) := by decide +kernel
theorem f68_34 : z_fetch 68 34 = some (.istore 3, 35, 0) := by decide +kernel
theorem f68_35 : z_fetch 68 35 = some (.iload 3, 36, 0) := by decide +kernel
theorem f68_36 : z_fetch 68 36 = some (.aload 2, 37, 0) := by decide +kernel
theorem f68_37 : z_fetch 68 37 = some (.getfield 3, 40, 3) := by decide +kernel
theorem f68_40 : z_fetch 68 40 = some (.if_icmp .ge 0, 43, 192) := by decide +kernel
theorem f68_43 : z_fetch 68 43 = some (.aload 2, 44, 0) := by decide +kernel
theorem f68_44 : z_fetch 68 44 = some (.instanceof 3, 47, 10) := by decide +kernel
theorem f68_47 : z_fetch 68 47 = some (.iload 3, 48, 0) := by decide +kernel
theorem f68_48 : z_fetch 68 48 = some (.iaload, 49, 0) := by decide +kernel
theorem f68_49 : z_fetch 68 49 = some (.istore 4, 51, 0) := by decide +kernel
theorem f68_51 : z_fetch 68 51 = some (.aload 0, 52, 0) := by decide +kernel
theorem f68_52 : z_fetch 68 52 = some (.getfield 9, 55, 9) := by decide +kernel
theorem f68_55 : z_fetch 68 55 = some (.aload 2, 56, 0) := by decide +kernel
theorem f68_56 : z_fetch 68 56 = some (.instanceof 3, 59, 8) := by decide +kernel
theorem f68_59 : z_fetch 68 59 = some (.iload 4, 61, 0) := by decide +kernel
theorem f68_61 : z_fetch 68 61 = some (.iaload, 62, 0) := by decide +kernel
theorem f68_62 : z_fetch 68 62 = some (.invokestatic 98, 65, 0) := by decide +kernel
theorem f68_65 : z_fetch 68 65 = some (.ifCond .eq 0, 68, 77) := by decide +kernel
theorem f68_68 : z_fetch 68 68 = some (.aload 0, 69, 0) := by decide +kernel
theorem f68_69 : z_fetch 68 69 = some (.instanceof 9, 72, 7) := by decide +kernel
theorem f68_72 : z_fetch 68 72 = some (.iload 3, 73, 0) := by decide +kernel
theorem f68_73 : z_fetch 68 73 = some (.iaload, 74, 0) := by decide +kernel
theorem f68_74 : z_fetch 68 74 = some (.goto 0, 77, 78) := by decide +kernel
theorem f68_77 : z_fetch 68 77 = some (.iconst 0, 78, 0) := by decide +kernel
theorem f68_78 : z_fetch 68 78 = some (.istore 5, 80, 0) := by decide +kernel
theorem f68_80 : z_fetch 68 80 = some (.aload 0, 81, 0) := by decide +kernel
theorem f68_81 : z_fetch 68 81 = some (.getfield 9, 84, 9) := by decide +kernel
theorem f68_84 : z_fetch 68 84 = some (.aload 2, 85, 0) := by decide +kernel
theorem f68_85 : z_fetch 68 85 = some (.instanceof 3, 88, 9) := by decide +kernel
theorem f68_88 : z_fetch 68 88 = some (.iload 4, 90, 0) := by decide +kernel
theorem f68_90 : z_fetch 68 90 = some (.iaload, 91, 0) := by decide +kernel
theorem f68_91 : z_fetch 68 91 = some (.invokestatic 98, 94, 0) := by decide +kernel
theorem f68_94 : z_fetch 68 94 = some (.ifCond .eq 0, 97, 106) := by decide +kernel
theorem f68_97 : z_fetch 68 97 = some (.aload 0, 98, 0) := by decide +kernel
theorem f68_98 : z_fetch 68 98 = some (.instanceof 9, 101, 8) := by decide +kernel
theorem f68_101 : z_fetch 68 101 = some (.iload 3, 102, 0) := by decide +kernel
theorem f68_102 : z_fetch 68 102 = some (.iaload, 103, 0) := by decide +kernel
theorem f68_103 : z_fetch 68 103 = some (.goto 0, 106, 107) := by decide +kernel
theorem f68_106 : z_fetch 68 106 = some (.iconst 0, 107, 0) := by decide +kernel
theorem f68_107 : z_fetch 68 107 = some (.istore 6, 109, 0) := by decide +kernel
theorem f68_109 : z_fetch 68 109 = some (.iload 1, 110, 0) := by decide +kernel
theorem f68_110 : z_fetch 68 110 = some (.iload 4, 112, 0) := by decide +kernel
theorem f68_112 : z_fetch 68 112 = some (.invokestatic 98, 115, 0) := by decide +kernel
theorem f68_115 : z_fetch 68 115 = some (.ifCond .ne 0, 118, 186) := by decide +kernel
theorem f68_118 : z_fetch 68 118 = some (.iload 5, 120, 0) := by decide +kernel
theorem f68_120 : z_fetch 68 120 = some (.iconst 2, 121, 0) := by decide +kernel
theorem f68_121 : z_fetch 68 121 = some (.if_icmp .eq 0, 124, 130) := by decide +kernel
theorem f68_124 : z_fetch 68 124 = some (.iload 6, 126, 0) := by decide +kernel
theorem f68_126 : z_fetch 68 126 = some (.iconst 2, 127, 0) := by decide +kernel
theorem f68_127 : z_fetch 68 127 = some (.if_icmp .ne 0, 130, 138) := by decide +kernel
theorem f68_130 : z_fetch 68 130 = some (.aload 2, 131, 0) := by decide +kernel
theorem f68_131 : z_fetch 68 131 = some (.instanceof 3, 134, 7) := by decide +kernel
theorem f68_134 : z_fetch 68 134 = some (.iload 4, 136, 0) := by decide +kernel
theorem f68_136 : z_fetch 68 136 = some (.iaload, 137, 0) := by decide +kernel
theorem f68_137 : z_fetch 68 137 = some (.ireturn, 138, 0) := by decide +kernel
theorem f68_138 : z_fetch 68 138 = some (.iload 5, 140, 0) := by decide +kernel
theorem f68_140 : z_fetch 68 140 = some (.iconst 1, 141, 0) := by decide +kernel
theorem f68_141 : z_fetch 68 141 = some (.if_icmp .ne 0, 144, 162) := by decide +kernel
theorem f68_144 : z_fetch 68 144 = some (.aload 0, 145, 0) := by decide +kernel
theorem f68_145 : z_fetch 68 145 = some (.dup, 146, 0) := by decide +kernel
theorem f68_146 : z_fetch 68 146 = some (.getfield 9, 149, 9) := by decide +kernel
theorem f68_149 : z_fetch 68 149 = some (.iconst 1, 150, 0) := by decide +kernel
theorem f68_150 : z_fetch 68 150 = some (.aload 2, 151, 0) := by decide +kernel
theorem f68_151 : z_fetch 68 151 = some (.instanceof 3, 154, 9) := by decide +kernel
theorem f68_154 : z_fetch 68 154 = some (.iload 4, 156, 0) := by decide +kernel
theorem f68_156 : z_fetch 68 156 = some (.iaload, 157, 0) := by decide +kernel
theorem f68_157 : z_fetch 68 157 = some (.ishl, 158, 0) := by decide +kernel
theorem f68_158 : z_fetch 68 158 = some (.ior, 159, 0) := by decide +kernel
theorem f68_159 : z_fetch 68 159 = some (.putfield 9, 162, 9) := by decide +kernel
theorem f68_162 : z_fetch 68 162 = some (.iload 6, 164, 0) := by decide +kernel
theorem f68_164 : z_fetch 68 164 = some (.iconst 1, 165, 0) := by decide +kernel
theorem f68_165 : z_fetch 68 165 = some (.if_icmp .ne 0, 168, 186) := by decide +kernel
theorem f68_168 : z_fetch 68 168 = some (.aload 0, 169, 0) := by decide +kernel
theorem f68_169 : z_fetch 68 169 = some (.dup, 170, 0) := by decide +kernel
theorem f68_170 : z_fetch 68 170 = some (.getfield 9, 173, 9) := by decide +kernel
theorem f68_173 : z_fetch 68 173 = some (.iconst 1, 174, 0) := by decide +kernel
theorem f68_174 : z_fetch 68 174 = some (.aload 2, 175, 0) := by decide +kernel
theorem f68_175 : z_fetch 68 175 = some (.instanceof 3, 178, 8) := by decide +kernel
theorem f68_178 : z_fetch 68 178 = some (.iload 4, 180, 0) := by decide +kernel
theorem f68_180 : z_fetch 68 180 = some (.iaload, 181, 0) := by decide +kernel
theorem f68_181 : z_fetch 68 181 = some (.ishl, 182, 0) := by decide +kernel
theorem f68_182 : z_fetch 68 182 = some (.ior, 183, 0) := by decide +kernel
theorem f68_183 : z_fetch 68 183 = some (.putfield 9, 186, 9) := by decide +kernel
theorem f68_186 : z_fetch 68 186 = some (.iinc 3 1, 189, 0) := by decide +kernel
theorem f68_189 : z_fetch 68 189 = some (.goto 0, 192, 35) := by decide +kernel
theorem f68_192 : z_fetch 68 192 = some (.iconst (-2), 194, 0) := by decide +kernel
theorem f68_194 : z_fetch 68 194 = some (.ireturn, 195, 0) := by decide +kernel
theorem f69_0 : z_fetch 69 0 = some (.aload 0, 1, 0) := by decide +kernel
theorem f69_1 : z_fetch 69 1 = some (.getfield 9, 4, 6) := by decide +kernel
theorem f69_4 : z_fetch 69 4 = some (.ifCond .eq 0, 7, 9) := by decide +kernel
theorem f69_7 : z_fetch 69 7 = some (.iconst 0, 8, 0) := by decide +kernel
theorem f69_8 : z_fetch 69 8 = some (.ireturn, 9, 0) := by decide +kernel
theorem f69_9 : z_fetch 69 9 = some (.aload 0, 10, 0) := by decide +kernel
theorem f69_10 : z_fetch 69 10 = some (.instanceof 9, 13, 10) := by decide +kernel
theorem f69_13 : z_fetch 69 13 = some (.iconst 1000, 16, 0) := by decide +kernel
theorem f69_16 : z_fetch 69 16 = some (.invokestatic 212, 19, 0) := by decide +kernel
theorem f69_19 : z_fetch 69 19 = some (.aload 0, 20, 0) := by decide +kernel
theorem f69_20 : z_fetch 69 20 = some (.instanceof 9, 23, 10) := by decide +kernel
theorem f69_23 : z_fetch 69 23 = some (.aload 0, 24, 0) := by decide +kernel
theorem f69_24 : z_fetch 69 24 = some (.instanceof 9, 27, 3) := by decide +kernel
theorem f69_27 : z_fetch 69 27 = some (.getfield 1, 30, 1) := by decide +kernel
theorem f69_30 : z_fetch 69 30 = some (.iconst 0, 31, 0) := by decide +kernel
theorem f69_31 : z_fetch 69 31 = some (.iastore, 32, 0) := by decide +kernel
theorem f69_32 : z_fetch 69 32 = some (.iconst 1000, 35, 0) := by decide +kernel
theorem f69_35 : z_fetch 69 35 = some (.istore 1, 36, 0) := by decide +kernel
theorem f69_36 : z_fetch 69 36 = some (.aload 0, 37, 0) := by decide +kernel
theorem f69_37 : z_fetch 69 37 = some (.instanceof 9, 40, 1) := by decide +kernel
theorem f69_40 : z_fetch 69 40 = some (.instanceof 6, 43, 0) := by decide +kernel
theorem f69_43 : z_fetch 69 43 = some (.astore 2, 44, 0) := by decide +kernel
theorem f69_44 : z_fetch 69 44 = some (.iconst 0, 45, 0) := by decide +kernel
theorem f69_45 : z_fetch 69 45 = some (.istore 3, 46, 0) := by decide +kernel
theorem f69_46 : z_fetch 69 46 = some (.iload 3, 47, 0) := by decide +kernel
theorem f69_47 : z_fetch 69 47 = some (.aload 2, 48, 0) := by decide +kernel
theorem f69_48 : z_fetch 69 48 = some (.getfield 3, 51, 3) := by decide +kernel
theorem f69_51 : z_fetch 69 51 = some (.if_icmp .ge 0, 54, 206) := by decide +kernel
theorem f69_54 : z_fetch 69 54 = some (.aload 2, 55, 0) := by decide +kernel
theorem f69_55 : z_fetch 69 55 = some (.instanceof 3, 58, 8) := by decide +kernel
theorem f69_58 : z_fetch 69 58 = some (.aload 2, 59, 0) := by decide +kernel
theorem f69_59 : z_fetch 69 59 = some (.instanceof 3, 62, 10) := by decide +kernel
theorem f69_62 : z_fetch 69 62 = some (.iload 3, 63, 0) := by decide +kernel
theorem f69_63 : z_fetch 69 63 = some (.iaload, 64, 0) := by decide +kernel
theorem f69_64 : z_fetch 69 64 = some (.iaload, 65, 0) := by decide +kernel
theorem f69_65 : z_fetch 69 65 = some (.istore 4, 67, 0) := by decide +kernel
theorem f69_67 : z_fetch 69 67 = some (.aload 2, 68, 0) := by decide +kernel
theorem f69_68 : z_fetch 69 68 = some (.instanceof 3, 71, 9) := by decide +kernel
theorem f69_71 : z_fetch 69 71 = some (.aload 2, 72, 0) := by decide +kernel
theorem f69_72 : z_fetch 69 72 = some (.instanceof 3, 75, 10) := by decide +kernel
theorem f69_75 : z_fetch 69 75 = some (.iload 3, 76, 0) := by decide +kernel
theorem f69_76 : z_fetch 69 76 = some (.iaload, 77, 0) := by decide +kernel
theorem f69_77 : z_fetch 69 77 = some (.iaload, 78, 0) := by decide +kernel
theorem f69_78 : z_fetch 69 78 = some (.istore 5, 80, 0) := by decide +kernel
theorem f69_80 : z_fetch 69 80 = some (.aload 0, 81, 0) := by decide +kernel
theorem f69_81 : z_fetch 69 81 = some (.instanceof 9, 84, 10) := by decide +kernel
theorem f69_84 : z_fetch 69 84 = some (.iload 4, 86, 0) := by decide +kernel
theorem f69_86 : z_fetch 69 86 = some (.iaload, 87, 0) := by decide +kernel
theorem f69_87 : z_fetch 69 87 = some (.iconst 1, 88, 0) := by decide +kernel
theorem f69_88 : z_fetch 69 88 = some (.iadd, 89, 0) := by decide +kernel
theorem f69_89 : z_fetch 69 89 = some (.istore 6, 91, 0) := by decide +kernel
theorem f69_91 : z_fetch 69 91 = some (.aload 0, 92, 0) := by decide +kernel
theorem f69_92 : z_fetch 69 92 = some (.instanceof 9, 95, 10) := by decide +kernel
theorem f69_95 : z_fetch 69 95 = some (.iload 5, 97, 0) := by decide +kernel
theorem f69_97 : z_fetch 69 97 = some (.iaload, 98, 0) := by decide +kernel
theorem f69_98 : z_fetch 69 98 = some (.iconst 1, 99, 0) := by decide +kernel
theorem f69_99 : z_fetch 69 99 = some (.iadd, 100, 0) := by decide +kernel
theorem f69_100 : z_fetch 69 100 = some (.istore 7, 102, 0) := by decide +kernel
theorem f69_102 : z_fetch 69 102 = some (.aload 0, 103, 0) := by decide +kernel
theorem f69_103 : z_fetch 69 103 = some (.instanceof 9, 106, 7) := by decide +kernel
theorem f69_106 : z_fetch 69 106 = some (.iload 3, 107, 0) := by decide +kernel
theorem f69_107 : z_fetch 69 107 = some (.iaload, 108, 0) := by decide +kernel
theorem f69_108 : z_fetch 69 108 = some (.iconst 1, 109, 0) := by decide +kernel
theorem f69_109 : z_fetch 69 109 = some (.if_icmp .ne 0, 112, 134) := by decide +kernel
theorem f69_112 : z_fetch 69 112 = some (.aload 0, 113, 0) := by decide +kernel
theorem f69_113 : z_fetch 69 113 = some (.instanceof 9, 116, 10) := by decide +kernel
theorem f69_116 : z_fetch 69 116 = some (.iload 5, 118, 0) := by decide +kernel
theorem f69_118 : z_fetch 69 118 = some (.aload 0, 119, 0) := by decide +kernel
theorem f69_119 : z_fetch 69 119 = some (.instanceof 9, 122, 10) := by decide +kernel
theorem f69_122 : z_fetch 69 122 = some (.iload 5, 124, 0) := by decide +kernel
theorem f69_124 : z_fetch 69 124 = some (.iaload, 125, 0) := by decide +kernel
theorem f69_125 : z_fetch 69 125 = some (.iload 6, 127, 0) := by decide +kernel
theorem f69_127 : z_fetch 69 127 = some (.fneg, 130, 0) := by decide +kernel
theorem f69_130 : z_fetch 69 130 = some (.iastore, 131, 0) := by decide +kernel
theorem f69_131 : z_fetch 69 131 = some (.goto 0, 134, 151) := by decide +kernel
theorem f69_134 : z_fetch 69 134 = some (.aload 0, 135, 0) := by decide +kernel
theorem f69_135 : z_fetch 69 135 = some (.instanceof 9, 138, 7) := by decide +kernel
theorem f69_138 : z_fetch 69 138 = some (.iload 3, 139, 0) := by decide +kernel
theorem f69_139 : z_fetch 69 139 = some (.iaload, 140, 0) := by decide +kernel
theorem f69_140 : z_fetch 69 140 = some (.iconst 2, 141, 0) := by decide +kernel
theorem f69_141 : z_fetch 69 141 = some (.if_icmp .ne 0, 144, 151) := by decide +kernel
theorem f69_144 : z_fetch 69 144 = some (.iload 1, 145, 0) := by decide +kernel
theorem f69_145 : z_fetch 69 145 = some (.iload 6, 147, 0) := by decide +kernel
theorem f69_147 : z_fetch 69 147 = some (.fneg, 150, 0) := by decide +kernel
theorem f69_150 : z_fetch 69 150 = some (.istore 1, 151, 0) := by decide +kernel
theorem f69_151 : z_fetch 69 151 = some (.aload 0, 152, 0) := by decide +kernel
theorem f69_152 : z_fetch 69 152 = some (.instanceof 9, 155, 8) := by decide +kernel
theorem f69_155 : z_fetch 69 155 = some (.iload 3, 156, 0) := by decide +kernel
theorem f69_156 : z_fetch 69 156 = some (.iaload, 157, 0) := by decide +kernel
theorem f69_157 : z_fetch 69 157 = some (.iconst 1, 158, 0) := by decide +kernel
theorem f69_158 : z_fetch 69 158 = some (.if_icmp .ne 0, 161, 183) := by decide +kernel
theorem f69_161 : z_fetch 69 161 = some (.aload 0, 162, 0) := by decide +kernel
theorem f69_162 : z_fetch 69 162 = some (.instanceof 9, 165, 10) := by decide +kernel
theorem f69_165 : z_fetch 69 165 = some (.iload 4, 167, 0) := by decide +kernel
theorem f69_167 : z_fetch 69 167 = some (.aload 0, 168, 0) := by decide +kernel
theorem f69_168 : z_fetch 69 168 = some (.instanceof 9, 171, 10) := by decide +kernel
theorem f69_171 : z_fetch 69 171 = some (.iload 4, 173, 0) := by decide +kernel
theorem f69_173 : z_fetch 69 173 = some (.iaload, 174, 0) := by decide +kernel
theorem f69_174 : z_fetch 69 174 = some (.iload 7, 176, 0) := by decide +kernel
theorem f69_176 : z_fetch 69 176 = some (.fneg, 179, 0) := by decide +kernel
theorem f69_179 : z_fetch 69 179 = some (.iastore, 180, 0) := by decide +kernel
theorem f69_180 : z_fetch 69 180 = some (.goto 0, 183, 200) := by decide +kernel
theorem f69_183 : z_fetch 69 183 = some (.aload 0, 184, 0) := by decide +kernel
theorem f69_184 : z_fetch 69 184 = some (.instanceof 9, 187, 8) := by decide +kernel
theorem f69_187 : z_fetch 69 187 = some (.iload 3, 188, 0) := by decide +kernel
theorem f69_188 : z_fetch 69 188 = some (.iaload, 189, 0) := by decide +kernel
theorem f69_189 : z_fetch 69 189 = some (.iconst 2, 190, 0) := by decide +kernel
theorem f69_190 : z_fetch 69 190 = some (.if_icmp .ne 0, 193, 200) := by decide +kernel
theorem f69_193 : z_fetch 69 193 = some (.iload 1, 194, 0) := by decide +kernel
theorem f69_194 : z_fetch 69 194 = some (.iload 7, 196, 0) := by decide +kernel
theorem f69_196 : z_fetch 69 196 = some (.fneg, 199, 0) := by decide +kernel
theorem f69_199 : z_fetch 69 199 = some (.istore 1, 200, 0) := by decide +kernel
theorem f69_200 : z_fetch 69 200 = some (.iinc 3 1, 203, 0) := by decide +kernel
theorem f69_203 : z_fetch 69 203 = some (.goto 0, 206, 46) := by decide +kernel
theorem f69_206 : z_fetch 69 206 = some (.iload 1, 207, 0) := by decide +kernel
theorem f69_207 : z_fetch 69 207 = some (.iconst 1000, 210, 0) := by decide +kernel
theorem f69_210 : z_fetch 69 210 = some (.if_icmp .ge 0, 213, 217) := by decide +kernel
theorem f69_213 : z_fetch 69 213 = some (.iload 1, 214, 0) := by decide +kernel
theorem f69_214 : z_fetch 69 214 = some (.goto 0, 217, 219) := by decide +kernel
theorem f69_217 : z_fetch 69 217 = some (.iconst (-2), 219, 0) := by decide +kernel
theorem f69_219 : z_fetch 69 219 = some (.ireturn, 220, 0) := by decide +kernel
theorem f70_0 : z_fetch 70 0 = some (.aload 0, 1, 0) := by decide +kernel
theorem f70_1 : z_fetch 70 1 = some (.monitorenter, 4, 0) := by decide +kernel
theorem f70_4 : z_fetch 70 4 = some (.new 3, 7, 0) := by decide +kernel
theorem f70_7 : z_fetch 70 7 = some (.dup, 8, 0) := by decide +kernel
theorem f70_8 : z_fetch 70 8 = some (.invokespecial 18, 11, 0) := by decide +kernel
theorem f70_11 : z_fetch 70 11 = some (.astore 1, 12, 0) := by decide +kernel
theorem f70_12 : z_fetch 70 12 = some (.aload 0, 13, 0) := by decide +kernel
theorem f70_13 : z_fetch 70 13 = some (.new 7, 16, 0) := by decide +kernel
theorem f70_16 : z_fetch 70 16 = some (.dup, 17, 0) := by decide +kernel
theorem f70_17 : z_fetch 70 17 = some (.invokespecial 46, 20, 0) := by decide +kernel
theorem f70_20 : z_fetch 70 20 = some (.putstatic 10, 23, 0) := by decide +kernel
theorem f70_23 : z_fetch 70 23 = some (.aload 0, 24, 0) := by decide +kernel
theorem f70_24 : z_fetch 70 24 = some (.new 8, 27, 0) := by decide +kernel
theorem f70_27 : z_fetch 70 27 = some (.dup, 28, 0) := by decide +kernel
theorem f70_28 : z_fetch 70 28 = some (.aload 0, 29, 0) := by decide +kernel
theorem f70_29 : z_fetch 70 29 = some (.instanceof 10, 32, 0) := by decide +kernel
theorem f70_32 : z_fetch 70 32 = some (.invokespecial 56, 35, 0) := by decide +kernel
theorem f70_35 : z_fetch 70 35 = some (.putstatic 10, 38, 1) := by decide +kernel
theorem f70_38 : z_fetch 70 38 = some (.aload 0, 39, 0) := by decide +kernel
theorem f70_39 : z_fetch 70 39 = some (.new 5, 42, 0) := by decide +kernel
theorem f70_42 : z_fetch 70 42 = some (.dup, 43, 0) := by decide +kernel
theorem f70_43 : z_fetch 70 43 = some (.aload 0, 44, 0) := by decide +kernel
theorem f70_44 : z_fetch 70 44 = some (.instanceof 10, 47, 0) := by decide +kernel
theorem f70_47 : z_fetch 70 47 = some (.invokespecial 23, 50, 0) := by decide +kernel
theorem f70_50 : z_fetch 70 50 = some (.putstatic 10, 53, 2) := by decide +kernel
theorem f70_53 : z_fetch 70 53 = some (.aload 0, 54, 0) := by decide +kernel
theorem f70_54 : z_fetch 70 54 = some (.iconst 6, 56, 0) := by decide +kernel
theorem f70_56 : z_fetch 70 56 = some (.anewarray 18, 59, 0) := by decide +kernel
theorem f70_59 : z_fetch 70 59 = some (.putstatic 10, 62, 3) := by decide +kernel
theorem f70_62 : z_fetch 70 62 = some (.aload 0, 63, 0) := by decide +kernel
theorem f70_63 : z_fetch 70 63 = some (.iconst 0, 64, 0) := by decide +kernel
theorem f70_64 : z_fetch 70 64 = some (.putfield 10, 67, 4) := by decide +kernel
theorem f70_67 : z_fetch 70 67 = some (.aload 0, 68, 0) := by decide +kernel
theorem f70_68 : z_fetch 70 68 = some (.new 6, 71, 0) := by decide +kernel
theorem f70_71 : z_fetch 70 71 = some (.dup, 72, 0) := by decide +kernel
theorem f70_72 : z_fetch 70 72 = some (.aload 1, 73, 0) := by decide +kernel
theorem f70_73 : z_fetch 70 73 = some (.invokespecial 34, 76, 0) := by decide +kernel
theorem f70_76 : z_fetch 70 76 = some (.putstatic 10, 79, 5) := by decide +kernel
theorem f70_79 : z_fetch 70 79 = some (.aload 0, 80, 0) := by decide +kernel
theorem f70_80 : z_fetch 70 80 = some (.new 6, 83, 0) := by decide +kernel
theorem f70_83 : z_fetch 70 83 = some (.dup, 84, 0) := by decide +kernel
theorem f70_84 : z_fetch 70 84 = some (.aload 1, 85, 0) := by decide +kernel
theorem f70_85 : z_fetch 70 85 = some (.invokespecial 34, 88, 0) := by decide +kernel
theorem f70_88 : z_fetch 70 88 = some (.putstatic 10, 91, 6) := by decide +kernel
theorem f70_91 : z_fetch 70 91 = some (.aload 0, 92, 0) := by decide +kernel
theorem f70_92 : z_fetch 70 92 = some (.iconst 4, 93, 0) := by decide +kernel
theorem f70_93 : z_fetch 70 93 = some (.anewarray 19, 96, 0) := by decide +kernel
theorem f70_96 : z_fetch 70 96 = some (.putstatic 10, 99, 7) := by decide +kernel
theorem f70_99 : z_fetch 70 99 = some (.aload 0, 100, 0) := by decide +kernel
theorem f70_100 : z_fetch 70 100 = some (.new 1, 103, 0) := by decide +kernel
theorem f70_103 : z_fetch 70 103 = some (.dup, 104, 0) := by decide +kernel
theorem f70_104 : z_fetch 70 104 = some (.invokespecial 8, 107, 0) := by decide +kernel
theorem f70_107 : z_fetch 70 107 = some (.putstatic 10, 110, 8) := by decide +kernel
theorem f70_110 : z_fetch 70 110 = some (.aload 0, 111, 0) := by decide +kernel
theorem f70_111 : z_fetch 70 111 = some (.new 0, 114, 0) := by decide +kernel
theorem f70_114 : z_fetch 70 114 = some (.dup, 115, 0) := by decide +kernel
theorem f70_115 : z_fetch 70 115 = some (.invokespecial 0, 118, 0) := by decide +kernel
theorem f70_118 : z_fetch 70 118 = some (.putstatic 10, 121, 9) := by decide +kernel
theorem f70_121 : z_fetch 70 121 = some (.aload 0, 122, 0) := by decide +kernel
theorem f70_122 : z_fetch 70 122 = some (.new 2, 125, 0) := by decide +kernel
theorem f70_125 : z_fetch 70 125 = some (.dup, 126, 0) := by decide +kernel
theorem f70_126 : z_fetch 70 126 = some (.aload 0, 127, 0) := by decide +kernel
theorem f70_127 : z_fetch 70 127 = some (.instanceof 10, 130, 9) := by decide +kernel
theorem f70_130 : z_fetch 70 130 = some (.invokespecial 13, 133, 0) := by decide +kernel
theorem f70_133 : z_fetch 70 133 = some (.putstatic 10, 136, 10) := by decide +kernel
theorem f70_136 : z_fetch 70 136 = some (.aload 0, 137, 0) := by decide +kernel
theorem f70_137 : z_fetch 70 137 = some (.new 9, 140, 0) := by decide +kernel
theorem f70_140 : z_fetch 70 140 = some (.dup, 141, 0) := by decide +kernel
theorem f70_141 : z_fetch 70 141 = some (.aload 0, 142, 0) := by decide +kernel
theorem f70_142 : z_fetch 70 142 = some (.instanceof 10, 145, 9) := by decide +kernel
theorem f70_145 : z_fetch 70 145 = some (.aload 0, 146, 0) := by decide +kernel
theorem f70_146 : z_fetch 70 146 = some (.instanceof 10, 149, 5) := by decide +kernel
theorem f70_149 : z_fetch 70 149 = some (.invokespecial 62, 152, 0) := by decide +kernel
theorem f70_152 : z_fetch 70 152 = some (.putstatic 10, 155, 11) := by decide +kernel
theorem f70_155 : z_fetch 70 155 = some (.aload 0, 156, 0) := by decide +kernel
theorem f70_156 : z_fetch 70 156 = some (.iconst 256, 159, 0) := by decide +kernel
theorem f70_159 : z_fetch 70 159 = some (.newarray .boolean, 161, 0) := by decide +kernel
theorem f70_161 : z_fetch 70 161 = some (.putstatic 10, 164, 12) := by decide +kernel
theorem f70_164 : z_fetch 70 164 = some (.aload 0, 165, 0) := by decide +kernel
theorem f70_165 : z_fetch 70 165 = some (.iconst 8, 167, 0) := by decide +kernel
theorem f70_167 : z_fetch 70 167 = some (.newarray .int, 169, 0) := by decide +kernel
theorem f70_169 : z_fetch 70 169 = some (.putstatic 10, 172, 13) := by decide +kernel
theorem f70_172 : z_fetch 70 172 = some (.aload 0, 173, 0) := by decide +kernel
theorem f70_173 : z_fetch 70 173 = some (.iconst 10, 175, 0) := by decide +kernel
theorem f70_175 : z_fetch 70 175 = some (.newarray .int, 177, 0) := by decide +kernel
theorem f70_177 : z_fetch 70 177 = some (.putstatic 10, 180, 14) := by decide +kernel
theorem f70_180 : z_fetch 70 180 = some (.return_, 181, 0) := by decide +kernel
theorem f71_0 : z_fetch 71 0 = some (.aload 0, 1, 0) := by decide +kernel
theorem f71_1 : z_fetch 71 1 = some (.instanceof 10, 4, 0) := by decide +kernel
theorem f71_4 : z_fetch 71 4 = some (.getfield 7, 7, 1) := by decide +kernel
theorem f71_7 : z_fetch 71 7 = some (.iconst 20, 9, 0) := by decide +kernel
theorem f71_9 : z_fetch 71 9 = some (.iadd, 10, 0) := by decide +kernel
theorem f71_10 : z_fetch 71 10 = some (.iconst 400, 13, 0) := by decide +kernel
theorem f71_13 : z_fetch 71 13 = some (.if_icmp .le 0, 16, 18) := by decide +kernel
theorem f71_16 : z_fetch 71 16 = some (.iconst (-1), 17, 0) := by decide +kernel
theorem f71_17 : z_fetch 71 17 = some (.ireturn, 18, 0) := by decide +kernel
theorem f71_18 : z_fetch 71 18 = some (.aload 0, 19, 0) := by decide +kernel
theorem f71_19 : z_fetch 71 19 = some (.instanceof 10, 22, 0) := by decide +kernel
theorem f71_22 : z_fetch 71 22 = some (.iload 1, 23, 0) := by decide +kernel
theorem f71_23 : z_fetch 71 23 = some (.invokevirtual 47, 26, 0) := by decide +kernel
theorem f71_26 : z_fetch 71 26 = some (.aload 0, 27, 0) := by decide +kernel
theorem f71_27 : z_fetch 71 27 = some (.instanceof 10, 30, 0) := by decide +kernel
theorem f71_30 : z_fetch 71 30 = some (.iload 2, 31, 0) := by decide +kernel
theorem f71_31 : z_fetch 71 31 = some (.invokevirtual 47, 34, 0) := by decide +kernel
theorem f71_34 : z_fetch 71 34 = some (.aload 0, 35, 0) := by decide +kernel
theorem f71_35 : z_fetch 71 35 = some (.instanceof 10, 38, 0) := by decide +kernel
theorem f71_38 : z_fetch 71 38 = some (.iload 3, 39, 0) := by decide +kernel
theorem f71_39 : z_fetch 71 39 = some (.invokevirtual 47, 42, 0) := by decide +kernel
theorem f71_42 : z_fetch 71 42 = some (.aload 0, 43, 0) := by decide +kernel
theorem f71_43 : z_fetch 71 43 = some (.instanceof 10, 46, 0) := by decide +kernel
theorem f71_46 : z_fetch 71 46 = some (.iload 4, 48, 0) := by decide +kernel
theorem f71_48 : z_fetch 71 48 = some (.invokevirtual 47, 51, 0) := by decide +kernel
theorem f71_51 : z_fetch 71 51 = some (.aload 0, 52, 0) := by decide +kernel
theorem f71_52 : z_fetch 71 52 = some (.instanceof 10, 55, 0) := by decide +kernel
theorem f71_55 : z_fetch 71 55 = some (.iload 5, 57, 0) := by decide +kernel
theorem f71_57 : z_fetch 71 57 = some (.invokevirtual 47, 60, 0) := by decide +kernel
theorem f71_60 : z_fetch 71 60 = some (.aload 0, 61, 0) := by decide +kernel
theorem f71_61 : z_fetch 71 61 = some (.instanceof 10, 64, 0) := by decide +kernel
theorem f71_64 : z_fetch 71 64 = some (.getfield 7, 67, 1) := by decide +kernel
theorem f71_67 : z_fetch 71 67 = some (.ireturn, 68, 0) := by decide +kernel
theorem f72_0 : z_fetch 72 0 = some (.iload 1, 1, 0) := by decide +kernel
theorem f72_1 : z_fetch 72 1 = some (.ifCond .lt 0, 4, 15) := by decide +kernel
theorem f72_4 : z_fetch 72 4 = some (.iload 1, 5, 0) := by decide +kernel
theorem f72_5 : z_fetch 72 5 = some (.aload 0, 6, 0) := by decide +kernel
theorem f72_6 : z_fetch 72 6 = some (.instanceof 10, 9, 0) := by decide +kernel
theorem f72_9 : z_fetch 72 9 = some (.getfield 7, 12, 1) := by decide +kernel
theorem f72_12 : z_fetch 72 12 = some (.if_icmp .le 0, 15, 17) := by decide +kernel
theorem f72_15 : z_fetch 72 15 = some (.iconst (-1), 16, 0) := by decide +kernel
theorem f72_16 : z_fetch 72 16 = some (.ireturn, 17, 0) := by decide +kernel
theorem f72_17 : z_fetch 72 17 = some (.aload 0, 18, 0) := by decide +kernel
theorem f72_18 : z_fetch 72 18 = some (.instanceof 10, 21, 0) := by decide +kernel
theorem f72_21 : z_fetch 72 21 = some (.iload 1, 22, 0) := by decide +kernel
theorem f72_22 : z_fetch 72 22 = some (.putfield 7, 25, 1) := by decide +kernel
theorem f72_25 : z_fetch 72 25 = some (.iload 1, 26, 0) := by decide +kernel
theorem f72_26 : z_fetch 72 26 = some (.ireturn, 27, 0) := by decide +kernel
theorem f73_0 : z_fetch 73 0 = some (.aload 0, 1, 0) := by decide +kernel
theorem f73_1 : z_fetch 73 1 = some (.instanceof 10, 4, 1) := by decide +kernel
theorem f73_4 : z_fetch 73 4 = some (.invokevirtual 57, 7, 0) := by decide +kernel
theorem f73_7 : z_fetch 73 7 = some (.astore 1, 8, 0) := by decide +kernel
theorem f73_8 : z_fetch 73 8 = some (.aload 0, 9, 0) := by decide +kernel
theorem f73_9 : z_fetch 73 9 = some (.instanceof 10, 12, 0) := by decide +kernel
theorem f73_12 : z_fetch 73 12 = some (.iconst 0, 13, 0) := by decide +kernel
theorem f73_13 : z_fetch 73 13 = some (.putfield 7, 16, 1) := by decide +kernel
theorem f73_16 : z_fetch 73 16 = some (.aload 1, 17, 0) := by decide +kernel
theorem f73_17 : z_fetch 73 17 = some (.ifnonnull 0, 20, 31) := by decide +kernel
theorem f73_20 : z_fetch 73 20 = some (.iconst (-2), 22, 0) := by decide +kernel
theorem f73_22 : z_fetch 73 22 = some (.aload 0, 23, 0) := by decide +kernel
theorem f73_23 : z_fetch 73 23 = some (.instanceof 10, 26, 0) := by decide +kernel
theorem f73_26 : z_fetch 73 26 = some (.getfield 7, 29, 7) := by decide +kernel
theorem f73_29 : z_fetch 73 29 = some (.isub, 30, 0) := by decide +kernel
theorem f73_30 : z_fetch 73 30 = some (.ireturn, 31, 0) := by decide +kernel
theorem f73_31 : z_fetch 73 31 = some (.aload 0, 32, 0) := by decide +kernel
theorem f73_32 : z_fetch 73 32 = some (.instanceof 10, 35, 5) := by decide +kernel
theorem f73_35 : z_fetch 73 35 = some (.aload 1, 36, 0) := by decide +kernel
theorem f73_36 : z_fetch 73 36 = some (.invokevirtual 35, 39, 0) := by decide +kernel
theorem f73_39 : z_fetch 73 39 = some (.aload 1, 40, 0) := by decide +kernel
theorem f73_40 : z_fetch 73 40 = some (.getfield 3, 43, 2) := by decide +kernel
theorem f73_43 : z_fetch 73 43 = some (.ireturn, 44, 0) := by decide +kernel
theorem f74_0 : z_fetch 74 0 = some (.aload 0, 1, 0) := by decide +kernel
theorem f74_1 : z_fetch 74 1 = some (.getfield 10, 4, 4) := by decide +kernel
theorem f74_4 : z_fetch 74 4 = some (.iconst 6, 6, 0) := by decide +kernel
theorem f74_6 : z_fetch 74 6 = some (.if_icmp .lt 0, 9, 11) := by decide +kernel
theorem f74_9 : z_fetch 74 9 = some (.iconst (-1), 10, 0) := by decide +kernel
theorem f74_10 : z_fetch 74 10 = some (.ireturn, 11, 0) := by decide +kernel
theorem f74_11 : z_fetch 74 11 = some (.aload 0, 12, 0) := by decide +kernel
theorem f74_12 : z_fetch 74 12 = some (.instanceof 10, 15, 2) := by decide +kernel
theorem f74_15 : z_fetch 74 15 = some (.invokevirtual 24, 18, 0) := by decide +kernel
theorem f74_18 : z_fetch 74 18 = some (.astore 1, 19, 0) := by decide +kernel
theorem f74_19 : z_fetch 74 19 = some (.aload 0, 20, 0) := by decide +kernel
theorem f74_20 : z_fetch 74 20 = some (.instanceof 10, 23, 0) := by decide +kernel
theorem f74_23 : z_fetch 74 23 = some (.iconst 0, 24, 0) := by decide +kernel
theorem f74_24 : z_fetch 74 24 = some (.putfield 7, 27, 1) := by decide +kernel
theorem f74_27 : z_fetch 74 27 = some (.aload 1, 28, 0) := by decide +kernel
theorem f74_28 : z_fetch 74 28 = some (.ifnonnull 0, 31, 42) := by decide +kernel
theorem f74_31 : z_fetch 74 31 = some (.iconst (-2), 33, 0) := by decide +kernel
theorem f74_33 : z_fetch 74 33 = some (.aload 0, 34, 0) := by decide +kernel
theorem f74_34 : z_fetch 74 34 = some (.instanceof 10, 37, 0) := by decide +kernel
theorem f74_37 : z_fetch 74 37 = some (.getfield 7, 40, 7) := by decide +kernel
theorem f74_40 : z_fetch 74 40 = some (.isub, 41, 0) := by decide +kernel
theorem f74_41 : z_fetch 74 41 = some (.ireturn, 42, 0) := by decide +kernel
theorem f74_42 : z_fetch 74 42 = some (.aload 0, 43, 0) := by decide +kernel
theorem f74_43 : z_fetch 74 43 = some (.instanceof 10, 46, 3) := by decide +kernel
theorem f74_46 : z_fetch 74 46 = some (.aload 0, 47, 0) := by decide +kernel
theorem f74_47 : z_fetch 74 47 = some (.getfield 10, 50, 4) := by decide +kernel
theorem f74_50 : z_fetch 74 50 = some (.aload 1, 51, 0) := by decide +kernel
theorem f74_51 : z_fetch 74 51 = some (.aastore, 52, 0) := by decide +kernel
theorem f74_52 : z_fetch 74 52 = some (.aload 0, 53, 0) := by decide +kernel
theorem f74_53 : z_fetch 74 53 = some (.dup, 54, 0) := by decide +kernel
theorem f74_54 : z_fetch 74 54 = some (.getfield 10, 57, 4) := by decide +kernel
theorem f74_57 : z_fetch 74 57 = some (.iconst 1, 58, 0) := by decide +kernel
theorem f74_58 : z_fetch 74 58 = some (.iadd, 59, 0) := by decide +kernel
theorem f74_59 : z_fetch 74 59 = some (.putfield 10, 62, 4) := by decide +kernel
theorem f74_62 : z_fetch 74 62 = some (.aload 0, 63, 0) := by decide +kernel
theorem f74_63 : z_fetch 74 63 = some (.getfield 10, 66, 4) := by decide +kernel
theorem f74_66 : z_fetch 74 66 = some (.iconst 1, 67, 0) := by decide +kernel
theorem f74_67 : z_fetch 74 67 = some (.isub, 68, 0) := by decide +kernel
theorem f74_68 : z_fetch 74 68 = some (.ireturn, 69, 0) := by decide +kernel
theorem f75_0 : z_fetch 75 0 = some (.iload 1, 1, 0) := by decide +kernel
theorem f75_1 : z_fetch 75 1 = some (.iconst (-1), 2, 0) := by decide +kernel
theorem f75_2 : z_fetch 75 2 = some (.if_icmp .eq 0, 5, 16) := by decide +kernel
theorem f75_5 : z_fetch 75 5 = some (.aload 0, 6, 0) := by decide +kernel
theorem f75_6 : z_fetch 75 6 = some (.iload 1, 7, 0) := by decide +kernel
theorem f75_7 : z_fetch 75 7 = some (.invokevirtual 103, 10, 0) := by decide +kernel
theorem f75_10 : z_fetch 75 10 = some (.ifnonnull 0, 13, 16) := by decide +kernel
theorem f75_13 : z_fetch 75 13 = some (.iconst (-2), 15, 0) := by decide +kernel
theorem f75_15 : z_fetch 75 15 = some (.ireturn, 16, 0) := by decide +kernel
theorem f75_16 : z_fetch 75 16 = some (.aload 0, 17, 0) := by decide +kernel
theorem f75_17 : z_fetch 75 17 = some (.instanceof 10, 20, 5) := by decide +kernel
theorem f75_20 : z_fetch 75 20 = some (.getfield 6, 23, 3) := by decide +kernel
theorem f75_23 : z_fetch 75 23 = some (.istore 2, 24, 0) := by decide +kernel
theorem f75_24 : z_fetch 75 24 = some (.aload 0, 25, 0) := by decide +kernel
theorem f75_25 : z_fetch 75 25 = some (.instanceof 10, 28, 5) := by decide +kernel
theorem f75_28 : z_fetch 75 28 = some (.iload 1, 29, 0) := by decide +kernel
theorem f75_29 : z_fetch 75 29 = some (.putfield 6, 32, 3) := by decide +kernel
theorem f75_32 : z_fetch 75 32 = some (.iload 2, 33, 0) := by decide +kernel
theorem f75_33 : z_fetch 75 33 = some (.ireturn, 34, 0) := by decide +kernel
theorem f76_0 : z_fetch 76 0 = some (.aload 0, 1, 0) := by decide +kernel
theorem f76_1 : z_fetch 76 1 = some (.iload 1, 2, 0) := by decide +kernel
theorem f76_2 : z_fetch 76 2 = some (.invokevirtual 101, 5, 0) := by decide +kernel
theorem f76_5 : z_fetch 76 5 = some (.ifCond .ne 0, 8, 10) := by decide +kernel
theorem f76_8 : z_fetch 76 8 = some (.iconst (-1), 9, 0) := by decide +kernel
theorem f76_9 : z_fetch 76 9 = some (.ireturn, 10, 0) := by decide +kernel
theorem f76_10 : z_fetch 76 10 = some (.aload 0, 11, 0) := by decide +kernel
theorem f76_11 : z_fetch 76 11 = some (.instanceof 10, 14, 5) := by decide +kernel
theorem f76_14 : z_fetch 76 14 = some (.instanceof 6, 17, 5) := by decide +kernel
theorem f76_17 : z_fetch 76 17 = some (.iload 1, 18, 0) := by decide +kernel
theorem f76_18 : z_fetch 76 18 = some (.aaload, 19, 0) := by decide +kernel
theorem f76_19 : z_fetch 76 19 = some (.astore 3, 20, 0) := by decide +kernel
theorem f76_20 : z_fetch 76 20 = some (.iload 2, 21, 0) := by decide +kernel
theorem f76_21 : z_fetch 76 21 = some (.tableswitch 0 0 6 #[64, 69, 74, 79, 84, 97, 114], 64, 119) := by decide +kernel
theorem f76_64 : z_fetch 76 64 = some (.aload 3, 65, 0) := by decide +kernel
theorem f76_65 : z_fetch 76 65 = some (.getfield 1, 68, 0) := by decide +kernel
theorem f76_68 : z_fetch 76 68 = some (.ireturn, 69, 0) := by decide +kernel
theorem f76_69 : z_fetch 76 69 = some (.aload 3, 70, 0) := by decide +kernel
theorem f76_70 : z_fetch 76 70 = some (.getfield 1, 73, 1) := by decide +kernel
theorem f76_73 : z_fetch 76 73 = some (.ireturn, 74, 0) := by decide +kernel
theorem f76_74 : z_fetch 76 74 = some (.aload 3, 75, 0) := by decide +kernel
theorem f76_75 : z_fetch 76 75 = some (.getfield 1, 78, 2) := by decide +kernel
theorem f76_78 : z_fetch 76 78 = some (.ireturn, 79, 0) := by decide +kernel
theorem f76_79 : z_fetch 76 79 = some (.aload 3, 80, 0) := by decide +kernel
theorem f76_80 : z_fetch 76 80 = some (.getfield 1, 83, 3) := by decide +kernel
theorem f76_83 : z_fetch 76 83 = some (.ireturn, 84, 0) := by decide +kernel
theorem f76_84 : z_fetch 76 84 = some (.aload 3, 85, 0) := by decide +kernel
theorem f76_85 : z_fetch 76 85 = some (.getfield 1, 88, 4) := by decide +kernel
theorem f76_88 : z_fetch 76 88 = some (.ifCond .eq 0, 91, 95) := by decide +kernel
theorem f76_91 : z_fetch 76 91 = some (.iconst 1, 92, 0) := by decide +kernel
theorem f76_92 : z_fetch 76 92 = some (.goto 0, 95, 96) := by decide +kernel
theorem f76_95 : z_fetch 76 95 = some (.iconst 0, 96, 0) := by decide +kernel
theorem f76_96 : z_fetch 76 96 = some (.ireturn, 97, 0) := by decide +kernel
theorem f76_97 : z_fetch 76 97 = some (.aload 0, 98, 0) := by decide +kernel
theorem f76_98 : z_fetch 76 98 = some (.instanceof 10, 101, 5) := by decide +kernel
theorem f76_101 : z_fetch 76 101 = some (.aload 3, 102, 0) := by decide +kernel
theorem f76_102 : z_fetch 76 102 = some (.invokevirtual 37, 105, 0) := by decide +kernel
theorem f76_105 : z_fetch 76 105 = some (.ifCond .eq 0, 108, 112) := by decide +kernel
theorem f76_108 : z_fetch 76 108 = some (.iconst 1, 109, 0) := by decide +kernel
theorem f76_109 : z_fetch 76 109 = some (.goto 0, 112, 113) := by decide +kernel
theorem f76_112 : z_fetch 76 112 = some (.iconst 0, 113, 0) := by decide +kernel
theorem f76_113 : z_fetch 76 113 = some (.ireturn, 114, 0) := by decide +kernel
theorem f76_114 : z_fetch 76 114 = some (.aload 3, 115, 0) := by decide +kernel
theorem f76_115 : z_fetch 76 115 = some (.getfield 1, 118, 5) := by decide +kernel
theorem f76_118 : z_fetch 76 118 = some (.ireturn, 119, 0) := by decide +kernel
theorem f76_119 : z_fetch 76 119 = some (.iconst (-1), 120, 0) := by decide +kernel
theorem f76_120 : z_fetch 76 120 = some (.ireturn, 121, 0) := by decide +kernel
theorem f77_0 : z_fetch 77 0 = some (.aload 0, 1, 0) := by decide +kernel
theorem f77_1 : z_fetch 77 1 = some (.iload 1, 2, 0) := by decide +kernel
theorem f77_2 : z_fetch 77 2 = some (.invokevirtual 102, 5, 0) := by decide +kernel
theorem f77_5 : z_fetch 77 5 = some (.ifCond .ne 0, 8, 10) := by decide +kernel
theorem f77_8 : z_fetch 77 8 = some (.iconst (-1), 9, 0) := by decide +kernel
theorem f77_9 : z_fetch 77 9 = some (.ireturn, 10, 0) := by decide +kernel
theorem f77_10 : z_fetch 77 10 = some (.iload 2, 11, 0) := by decide +kernel
theorem f77_11 : z_fetch 77 11 = some (.tableswitch 0 0 2 #[36, 49, 62], 36, 75) := by decide +kernel
theorem f77_36 : z_fetch 77 36 = some (.aload 0, 37, 0) := by decide +kernel
theorem f77_37 : z_fetch 77 37 = some (.instanceof 10, 40, 5) := by decide +kernel
theorem f77_40 : z_fetch 77 40 = some (.instanceof 6, 43, 0) := by decide +kernel
theorem f77_43 : z_fetch 77 43 = some (.instanceof 3, 46, 7) := by decide +kernel
theorem f77_46 : z_fetch 77 46 = some (.iload 1, 47, 0) := by decide +kernel
theorem f77_47 : z_fetch 77 47 = some (.iaload, 48, 0) := by decide +kernel
theorem f77_48 : z_fetch 77 48 = some (.ireturn, 49, 0) := by decide +kernel
theorem f77_49 : z_fetch 77 49 = some (.aload 0, 50, 0) := by decide +kernel
theorem f77_50 : z_fetch 77 50 = some (.instanceof 10, 53, 5) := by decide +kernel
theorem f77_53 : z_fetch 77 53 = some (.instanceof 6, 56, 0) := by decide +kernel
theorem f77_56 : z_fetch 77 56 = some (.instanceof 3, 59, 8) := by decide +kernel
theorem f77_59 : z_fetch 77 59 = some (.iload 1, 60, 0) := by decide +kernel
theorem f77_60 : z_fetch 77 60 = some (.iaload, 61, 0) := by decide +kernel
theorem f77_61 : z_fetch 77 61 = some (.ireturn, 62, 0) := by decide +kernel
theorem f77_62 : z_fetch 77 62 = some (.aload 0, 63, 0) := by decide +kernel
theorem f77_63 : z_fetch 77 63 = some (.instanceof 10, 66, 5) := by decide +kernel
theorem f77_66 : z_fetch 77 66 = some (.instanceof 6, 69, 0) := by decide +kernel
theorem f77_69 : z_fetch 77 69 = some (.instanceof 3, 72, 9) := by decide +kernel
theorem f77_72 : z_fetch 77 72 = some (.iload 1, 73, 0) := by decide +kernel
theorem f77_73 : z_fetch 77 73 = some (.iaload, 74, 0) := by decide +kernel
theorem f77_74 : z_fetch 77 74 = some (.ireturn, 75, 0) := by decide +kernel
theorem f77_75 : z_fetch 77 75 = some (.iconst (-1), 76, 0) := by decide +kernel
theorem f77_76 : z_fetch 77 76 = some (.ireturn, 77, 0) := by decide +kernel
theorem f78_0 : z_fetch 78 0 = some (.aload 0, 1, 0) := by decide +kernel
theorem f78_1 : z_fetch 78 1 = some (.iload 1, 2, 0) := by decide +kernel
theorem f78_2 : z_fetch 78 2 = some (.invokevirtual 100, 5, 0) := by decide +kernel
theorem f78_5 : z_fetch 78 5 = some (.ifCond .ne 0, 8, 10) := by decide +kernel
theorem f78_8 : z_fetch 78 8 = some (.iconst (-1), 9, 0) := by decide +kernel
theorem f78_9 : z_fetch 78 9 = some (.ireturn, 10, 0) := by decide +kernel
theorem f78_10 : z_fetch 78 10 = some (.iload 2, 11, 0) := by decide +kernel
theorem f78_11 : z_fetch 78 11 = some (.tableswitch 0 0 2 #[36, 45, 54], 36, 63) := by decide +kernel
theorem f78_36 : z_fetch 78 36 = some (.aload 0, 37, 0) := by decide +kernel
theorem f78_37 : z_fetch 78 37 = some (.instanceof 10, 40, 5) := by decide +kernel
theorem f78_40 : z_fetch 78 40 = some (.iload 1, 41, 0) := by decide +kernel
theorem f78_41 : z_fetch 78 41 = some (.invokevirtual 39, 44, 0) := by decide +kernel
theorem f78_44 : z_fetch 78 44 = some (.ireturn, 45, 0) := by decide +kernel
theorem f78_45 : z_fetch 78 45 = some (.aload 0, 46, 0) := by decide +kernel
theorem f78_46 : z_fetch 78 46 = some (.instanceof 10, 49, 5) := by decide +kernel
theorem f78_49 : z_fetch 78 49 = some (.iload 1, 50, 0) := by decide +kernel
theorem f78_50 : z_fetch 78 50 = some (.invokevirtual 41, 53, 0) := by decide +kernel
theorem f78_53 : z_fetch 78 53 = some (.ireturn, 54, 0) := by decide +kernel
theorem f78_54 : z_fetch 78 54 = some (.aload 0, 55, 0) := by decide +kernel
theorem f78_55 : z_fetch 78 55 = some (.instanceof 10, 58, 5) := by decide +kernel
theorem f78_58 : z_fetch 78 58 = some (.iload 1, 59, 0) := by decide +kernel
theorem f78_59 : z_fetch 78 59 = some (.invokevirtual 42, 62, 0) := by decide +kernel
theorem f78_62 : z_fetch 78 62 = some (.ireturn, 63, 0) := by decide +kernel
theorem f78_63 : z_fetch 78 63 = some (.iconst (-1), 64, 0) := by decide +kernel
theorem f78_64 : z_fetch 78 64 = some (.ireturn, 65, 0) := by decide +kernel
theorem f79_0 : z_fetch 79 0 = some (.aload 0, 1, 0) := by decide +kernel
theorem f79_1 : z_fetch 79 1 = some (.iload 1, 2, 0) := by decide +kernel
theorem f79_2 : z_fetch 79 2 = some (.invokevirtual 101, 5, 0) := by decide +kernel
theorem f79_5 : z_fetch 79 5 = some (.ifCond .eq 0, 8, 16) := by decide +kernel
theorem f79_8 : z_fetch 79 8 = some (.aload 0, 9, 0) := by decide +kernel
theorem f79_9 : z_fetch 79 9 = some (.iload 2, 10, 0) := by decide +kernel
theorem f79_10 : z_fetch 79 10 = some (.invokevirtual 100, 13, 0) := by decide +kernel
theorem f79_13 : z_fetch 79 13 = some (.ifCond .ne 0, 16, 18) := by decide +kernel
theorem f79_16 : z_fetch 79 16 = some (.iconst (-1), 17, 0) := by decide +kernel
theorem f79_17 : z_fetch 79 17 = some (.ireturn, 18, 0) := by decide +kernel
theorem f79_18 : z_fetch 79 18 = some (.aload 0, 19, 0) := by decide +kernel
theorem f79_19 : z_fetch 79 19 = some (.instanceof 10, 22, 5) := by decide +kernel
theorem f79_22 : z_fetch 79 22 = some (.instanceof 6, 25, 5) := by decide +kernel
theorem f79_25 : z_fetch 79 25 = some (.iload 1, 26, 0) := by decide +kernel
theorem f79_26 : z_fetch 79 26 = some (.aaload, 27, 0) := by decide +kernel
theorem f79_27 : z_fetch 79 27 = some (.astore 3, 28, 0) := by decide +kernel
theorem f79_28 : z_fetch 79 28 = some (.aload 3, 29, 0) := by decide +kernel
theorem f79_29 : z_fetch 79 29 = some (.getfield 1, 32, 1) := by decide +kernel
theorem f79_32 : z_fetch 79 32 = some (.iload 2, 33, 0) := by decide +kernel
theorem f79_33 : z_fetch 79 33 = some (.if_icmp .ne 0, 36, 38) := by decide +kernel
theorem f79_36 : z_fetch 79 36 = some (.iconst (-1), 37, 0) := by decide +kernel
theorem f79_37 : z_fetch 79 37 = some (.ireturn, 38, 0) := by decide +kernel
theorem f79_38 : z_fetch 79 38 = some (.aload 0, 39, 0) := by decide +kernel
theorem f79_39 : z_fetch 79 39 = some (.instanceof 10, 42, 5) := by decide +kernel
theorem f79_42 : z_fetch 79 42 = some (.aload 3, 43, 0) := by decide +kernel
theorem f79_43 : z_fetch 79 43 = some (.invokevirtual 37, 46, 0) := by decide +kernel
theorem f79_46 : z_fetch 79 46 = some (.ifCond .eq 0, 49, 52) := by decide +kernel
theorem f79_49 : z_fetch 79 49 = some (.iconst (-3), 51, 0) := by decide +kernel
theorem f79_51 : z_fetch 79 51 = some (.ireturn, 52, 0) := by decide +kernel
theorem f79_52 : z_fetch 79 52 = some (.aload 0, 53, 0) := by decide +kernel
theorem f79_53 : z_fetch 79 53 = some (.instanceof 10, 56, 5) := by decide +kernel
theorem f79_56 : z_fetch 79 56 = some (.aload 3, 57, 0) := by decide +kernel
theorem f79_57 : z_fetch 79 57 = some (.getfield 1, 60, 1) := by decide +kernel
theorem f79_60 : z_fetch 79 60 = some (.invokevirtual 42, 63, 0) := by decide +kernel
theorem f79_63 : z_fetch 79 63 = some (.iload 2, 64, 0) := by decide +kernel
theorem f79_64 : z_fetch 79 64 = some (.invokestatic 98, 67, 0) := by decide +kernel
theorem f79_67 : z_fetch 79 67 = some (.ifCond .ne 0, 70, 73) := by decide +kernel
theorem f79_70 : z_fetch 79 70 = some (.iconst (-4), 72, 0) := by decide +kernel
theorem f79_72 : z_fetch 79 72 = some (.ireturn, 73, 0) := by decide +kernel
theorem f79_73 : z_fetch 79 73 = some (.aload 0, 74, 0) := by decide +kernel
theorem f79_74 : z_fetch 79 74 = some (.instanceof 10, 77, 9) := by decide +kernel
theorem f79_77 : z_fetch 79 77 = some (.aload 0, 78, 0) := by decide +kernel
theorem f79_78 : z_fetch 79 78 = some (.instanceof 10, 81, 5) := by decide +kernel
theorem f79_81 : z_fetch 79 81 = some (.iload 1, 82, 0) := by decide +kernel
theorem f79_82 : z_fetch 79 82 = some (.iload 2, 83, 0) := by decide +kernel
theorem f79_83 : z_fetch 79 83 = some (.invokevirtual 1, 86, 0) := by decide +kernel
theorem f79_86 : z_fetch 79 86 = some (.aload 0, 87, 0) := by decide +kernel
theorem f79_87 : z_fetch 79 87 = some (.invokevirtual 104, 90, 0) := by decide +kernel
theorem f79_90 : z_fetch 79 90 = some (.ifCond .eq 0, 93, 96) := by decide +kernel
theorem f79_93 : z_fetch 79 93 = some (.iconst (-5), 95, 0) := by decide +kernel
theorem f79_95 : z_fetch 79 95 = some (.ireturn, 96, 0) := by decide +kernel
theorem f79_96 : z_fetch 79 96 = some (.aload 3, 97, 0) := by decide +kernel
theorem f79_97 : z_fetch 79 97 = some (.iload 2, 98, 0) := by decide +kernel
theorem f79_98 : z_fetch 79 98 = some (.invokevirtual 12, 101, 0) := by decide +kernel
theorem f79_101 : z_fetch 79 101 = some (.iconst 0, 102, 0) := by decide +kernel
theorem f79_102 : z_fetch 79 102 = some (.ireturn, 103, 0) := by decide +kernel
theorem f80_0 : z_fetch 80 0 = some (.aload 0, 1, 0) := by decide +kernel
theorem f80_1 : z_fetch 80 1 = some (.iload 1, 2, 0) := by decide +kernel
theorem f80_2 : z_fetch 80 2 = some (.invokevirtual 101, 5, 0) := by decide +kernel
theorem f80_5 : z_fetch 80 5 = some (.ifCond .ne 0, 8, 10) := by decide +kernel
theorem f80_8 : z_fetch 80 8 = some (.iconst (-1), 9, 0) := by decide +kernel
theorem f80_9 : z_fetch 80 9 = some (.ireturn, 10, 0) := by decide +kernel
theorem f80_10 : z_fetch 80 10 = some (.aload 0, 11, 0) := by decide +kernel
theorem f80_11 : z_fetch 80 11 = some (.instanceof 10, 14, 5) := by decide +kernel
theorem f80_14 : z_fetch 80 14 = some (.instanceof 6, 17, 5) := by decide +kernel
theorem f80_17 : z_fetch 80 17 = some (.iload 1, 18, 0) := by decide +kernel
theorem f80_18 : z_fetch 80 18 = some (.aaload, 19, 0) := by decide +kernel
theorem f80_19 : z_fetch 80 19 = some (.astore 2, 20, 0) := by decide +kernel
theorem f80_20 : z_fetch 80 20 = some (.aload 0, 21, 0) := by decide +kernel
theorem f80_21 : z_fetch 80 21 = some (.instanceof 10, 24, 5) := by decide +kernel
theorem f80_24 : z_fetch 80 24 = some (.aload 2, 25, 0) := by decide +kernel
theorem f80_25 : z_fetch 80 25 = some (.invokevirtual 37, 28, 0) := by decide +kernel
theorem f80_28 : z_fetch 80 28 = some (.ifCond .eq 0, 31, 34) := by decide +kernel
theorem f80_31 : z_fetch 80 31 = some (.iconst (-3), 33, 0) := by decide +kernel
theorem f80_33 : z_fetch 80 33 = some (.ireturn, 34, 0) := by decide +kernel
theorem f80_34 : z_fetch 80 34 = some (.aload 2, 35, 0) := by decide +kernel
theorem f80_35 : z_fetch 80 35 = some (.getfield 1, 38, 4) := by decide +kernel
theorem f80_38 : z_fetch 80 38 = some (.ifCond .ne 0, 41, 44) := by decide +kernel
theorem f80_41 : z_fetch 80 41 = some (.iconst (-4), 43, 0) := by decide +kernel
theorem f80_43 : z_fetch 80 43 = some (.ireturn, 44, 0) := by decide +kernel
theorem f80_44 : z_fetch 80 44 = some (.aload 0, 45, 0) := by decide +kernel
theorem f80_45 : z_fetch 80 45 = some (.instanceof 10, 48, 9) := by decide +kernel
theorem f80_48 : z_fetch 80 48 = some (.aload 0, 49, 0) := by decide +kernel
theorem f80_49 : z_fetch 80 49 = some (.instanceof 10, 52, 5) := by decide +kernel
theorem f80_52 : z_fetch 80 52 = some (.iload 1, 53, 0) := by decide +kernel
theorem f80_53 : z_fetch 80 53 = some (.invokevirtual 2, 56, 0) := by decide +kernel
theorem f80_56 : z_fetch 80 56 = some (.aload 0, 57, 0) := by decide +kernel
theorem f80_57 : z_fetch 80 57 = some (.invokevirtual 104, 60, 0) := by decide +kernel
theorem f80_60 : z_fetch 80 60 = some (.ifCond .eq 0, 63, 66) := by decide +kernel
theorem f80_63 : z_fetch 80 63 = some (.iconst (-5), 65, 0) := by decide +kernel
theorem f80_65 : z_fetch 80 65 = some (.ireturn, 66, 0) := by decide +kernel
theorem f80_66 : z_fetch 80 66 = some (.aload 0, 67, 0) := by decide +kernel
theorem f80_67 : z_fetch 80 67 = some (.instanceof 10, 70, 5) := by decide +kernel
theorem f80_70 : z_fetch 80 70 = some (.aload 2, 71, 0) := by decide +kernel
theorem f80_71 : z_fetch 80 71 = some (.invokevirtual 44, 74, 0) := by decide +kernel
theorem f80_74 : z_fetch 80 74 = some (.aload 2, 75, 0) := by decide +kernel
theorem f80_75 : z_fetch 80 75 = some (.getfield 1, 78, 5) := by decide +kernel
theorem f80_78 : z_fetch 80 78 = some (.ireturn, 79, 0) := by decide +kernel
theorem f81_0 : z_fetch 81 0 = some (.aload 0, 1, 0) := by decide +kernel
theorem f81_1 : z_fetch 81 1 = some (.invokevirtual 99, 4, 0) := by decide +kernel
theorem f81_4 : z_fetch 81 4 = some (.ifCond .eq 0, 7, 34) := by decide +kernel
theorem f81_7 : z_fetch 81 7 = some (.iload 1, 8, 0) := by decide +kernel
theorem f81_8 : z_fetch 81 8 = some (.iconst 1, 9, 0) := by decide +kernel
theorem f81_9 : z_fetch 81 9 = some (.if_icmp .lt 0, 12, 34) := by decide +kernel
theorem f81_12 : z_fetch 81 12 = some (.iload 1, 13, 0) := by decide +kernel
theorem f81_13 : z_fetch 81 13 = some (.iconst 999, 16, 0) := by decide +kernel
theorem f81_16 : z_fetch 81 16 = some (.if_icmp .gt 0, 19, 34) := by decide +kernel
theorem f81_19 : z_fetch 81 19 = some (.aload 0, 20, 0) := by decide +kernel
theorem f81_20 : z_fetch 81 20 = some (.instanceof 10, 23, 5) := by decide +kernel
theorem f81_23 : z_fetch 81 23 = some (.getfield 6, 26, 1) := by decide +kernel
theorem f81_26 : z_fetch 81 26 = some (.iload 1, 27, 0) := by decide +kernel
theorem f81_27 : z_fetch 81 27 = some (.iadd, 28, 0) := by decide +kernel
theorem f81_28 : z_fetch 81 28 = some (.iconst 19999, 31, 0) := by decide +kernel
theorem f81_31 : z_fetch 81 31 = some (.if_icmp .le 0, 34, 36) := by decide +kernel
theorem f81_34 : z_fetch 81 34 = some (.iconst (-1), 35, 0) := by decide +kernel
theorem f81_35 : z_fetch 81 35 = some (.ireturn, 36, 0) := by decide +kernel
theorem f81_36 : z_fetch 81 36 = some (.aload 0, 37, 0) := by decide +kernel
theorem f81_37 : z_fetch 81 37 = some (.instanceof 10, 40, 5) := by decide +kernel
theorem f81_40 : z_fetch 81 40 = some (.dup, 41, 0) := by decide +kernel
theorem f81_41 : z_fetch 81 41 = some (.getfield 6, 44, 1) := by decide +kernel
theorem f81_44 : z_fetch 81 44 = some (.iload 1, 45, 0) := by decide +kernel
theorem f81_45 : z_fetch 81 45 = some (.iadd, 46, 0) := by decide +kernel
theorem f81_46 : z_fetch 81 46 = some (.putfield 6, 49, 1) := by decide +kernel
theorem f81_49 : z_fetch 81 49 = some (.aload 0, 50, 0) := by decide +kernel
theorem f81_50 : z_fetch 81 50 = some (.instanceof 10, 53, 5) := by decide +kernel
theorem f81_53 : z_fetch 81 53 = some (.getfield 6, 56, 1) := by decide +kernel
theorem f81_56 : z_fetch 81 56 = some (.ireturn, 57, 0) := by decide +kernel
theorem f82_0 : z_fetch 82 0 = some (.aload 0, 1, 0) := by decide +kernel
theorem f82_1 : z_fetch 82 1 = some (.iload 1, 2, 0) := by decide +kernel
theorem f82_2 : z_fetch 82 2 = some (.invokevirtual 103, 5, 0) := by decide +kernel
theorem f82_5 : z_fetch 82 5 = some (.astore 3, 6, 0) := by decide +kernel
theorem f82_6 : z_fetch 82 6 = some (.aload 3, 7, 0) := by decide +kernel
theorem f82_7 : z_fetch 82 7 = some (.ifnull 0, 10, 44) := by decide +kernel
theorem f82_10 : z_fetch 82 10 = some (.aload 0, 11, 0) := by decide +kernel
theorem f82_11 : z_fetch 82 11 = some (.invokevirtual 99, 14, 0) := by decide +kernel
theorem f82_14 : z_fetch 82 14 = some (.ifCond .eq 0, 17, 44) := by decide +kernel
theorem f82_17 : z_fetch 82 17 = some (.iload 2, 18, 0) := by decide +kernel
theorem f82_18 : z_fetch 82 18 = some (.iconst 1, 19, 0) := by decide +kernel
theorem f82_19 : z_fetch 82 19 = some (.if_icmp .lt 0, 22, 44) := by decide +kernel
theorem f82_22 : z_fetch 82 22 = some (.iload 2, 23, 0) := by decide +kernel
theorem f82_23 : z_fetch 82 23 = some (.iconst 400, 26, 0) := by decide +kernel
theorem f82_26 : z_fetch 82 26 = some (.if_icmp .gt 0, 29, 44) := by decide +kernel
theorem f82_29 : z_fetch 82 29 = some (.aload 0, 30, 0) := by decide +kernel
theorem f82_30 : z_fetch 82 30 = some (.instanceof 10, 33, 5) := by decide +kernel
theorem f82_33 : z_fetch 82 33 = some (.getfield 6, 36, 1) := by decide +kernel
theorem f82_36 : z_fetch 82 36 = some (.iload 2, 37, 0) := by decide +kernel
theorem f82_37 : z_fetch 82 37 = some (.iadd, 38, 0) := by decide +kernel
theorem f82_38 : z_fetch 82 38 = some (.iconst 19999, 41, 0) := by decide +kernel
theorem f82_41 : z_fetch 82 41 = some (.if_icmp .le 0, 44, 46) := by decide +kernel
theorem f82_44 : z_fetch 82 44 = some (.iconst (-1), 45, 0) := by decide +kernel
theorem f82_45 : z_fetch 82 45 = some (.ireturn, 46, 0) := by decide +kernel
theorem f82_46 : z_fetch 82 46 = some (.aload 0, 47, 0) := by decide +kernel
theorem f82_47 : z_fetch 82 47 = some (.instanceof 10, 50, 10) := by decide +kernel
theorem f82_50 : z_fetch 82 50 = some (.aload 0, 51, 0) := by decide +kernel
theorem f82_51 : z_fetch 82 51 = some (.instanceof 10, 54, 5) := by decide +kernel
theorem f82_54 : z_fetch 82 54 = some (.aload 3, 55, 0) := by decide +kernel
theorem f82_55 : z_fetch 82 55 = some (.iload 2, 56, 0) := by decide +kernel
theorem f82_56 : z_fetch 82 56 = some (.iconst 0, 57, 0) := by decide +kernel
theorem f82_57 : z_fetch 82 57 = some (.invokevirtual 14, 60, 0) := by decide +kernel
theorem f82_60 : z_fetch 82 60 = some (.pop, 61, 0) := by decide +kernel
theorem f82_61 : z_fetch 82 61 = some (.aload 0, 62, 0) := by decide +kernel
theorem f82_62 : z_fetch 82 62 = some (.instanceof 10, 65, 5) := by decide +kernel
theorem f82_65 : z_fetch 82 65 = some (.getfield 6, 68, 1) := by decide +kernel
theorem f82_68 : z_fetch 82 68 = some (.ireturn, 69, 0) := by decide +kernel
theorem f83_0 : z_fetch 83 0 = some (.aload 0, 1, 0) := by decide +kernel
theorem f83_1 : z_fetch 83 1 = some (.iload 1, 2, 0) := by decide +kernel
theorem f83_2 : z_fetch 83 2 = some (.invokevirtual 103, 5, 0) := by decide +kernel
theorem f83_5 : z_fetch 83 5 = some (.astore 4, 7, 0) := by decide +kernel
theorem f83_7 : z_fetch 83 7 = some (.aload 4, 9, 0) := by decide +kernel
theorem f83_9 : z_fetch 83 9 = some (.ifnull 0, 12, 39) := by decide +kernel
theorem f83_12 : z_fetch 83 12 = some (.aload 0, 13, 0) := by decide +kernel
theorem f83_13 : z_fetch 83 13 = some (.invokevirtual 99, 16, 0) := by decide +kernel
theorem f83_16 : z_fetch 83 16 = some (.ifCond .eq 0, 19, 39) := by decide +kernel
theorem f83_19 : z_fetch 83 19 = some (.iload 2, 20, 0) := by decide +kernel
theorem f83_20 : z_fetch 83 20 = some (.ifCond .lt 0, 23, 39) := by decide +kernel
theorem f83_23 : z_fetch 83 23 = some (.iload 2, 24, 0) := by decide +kernel
theorem f83_24 : z_fetch 83 24 = some (.iconst 400, 27, 0) := by decide +kernel
theorem f83_27 : z_fetch 83 27 = some (.if_icmp .gt 0, 30, 39) := by decide +kernel
theorem f83_30 : z_fetch 83 30 = some (.iload 3, 31, 0) := by decide +kernel
theorem f83_31 : z_fetch 83 31 = some (.ifCond .lt 0, 34, 39) := by decide +kernel
theorem f83_34 : z_fetch 83 34 = some (.iload 3, 35, 0) := by decide +kernel
theorem f83_35 : z_fetch 83 35 = some (.iconst 2, 36, 0) := by decide +kernel
theorem f83_36 : z_fetch 83 36 = some (.if_icmp .le 0, 39, 41) := by decide +kernel
theorem f83_39 : z_fetch 83 39 = some (.iconst (-1), 40, 0) := by decide +kernel
theorem f83_40 : z_fetch 83 40 = some (.ireturn, 41, 0) := by decide +kernel
theorem f83_41 : z_fetch 83 41 = some (.aload 0, 42, 0) := by decide +kernel
theorem f83_42 : z_fetch 83 42 = some (.instanceof 10, 45, 6) := by decide +kernel
theorem f83_45 : z_fetch 83 45 = some (.aload 0, 46, 0) := by decide +kernel
theorem f83_46 : z_fetch 83 46 = some (.instanceof 10, 49, 5) := by decide +kernel
theorem f83_49 : z_fetch 83 49 = some (.invokevirtual 36, 52, 0) := by decide +kernel
theorem f83_52 : z_fetch 83 52 = some (.aload 0, 53, 0) := by decide +kernel
theorem f83_53 : z_fetch 83 53 = some (.instanceof 10, 56, 10) := by decide +kernel
theorem f83_56 : z_fetch 83 56 = some (.aload 0, 57, 0) := by decide +kernel
theorem f83_57 : z_fetch 83 57 = some (.instanceof 10, 60, 6) := by decide +kernel
theorem f83_60 : z_fetch 83 60 = some (.aload 4, 62, 0) := by decide +kernel
theorem f83_62 : z_fetch 83 62 = some (.iload 2, 63, 0) := by decide +kernel
theorem f83_63 : z_fetch 83 63 = some (.iconst 0, 64, 0) := by decide +kernel
theorem f83_64 : z_fetch 83 64 = some (.invokevirtual 14, 67, 0) := by decide +kernel
theorem f83_67 : z_fetch 83 67 = some (.istore 5, 69, 0) := by decide +kernel
theorem f83_69 : z_fetch 83 69 = some (.iload 3, 70, 0) := by decide +kernel
theorem f83_70 : z_fetch 83 70 = some (.ifCond .ne 0, 73, 89) := by decide +kernel
theorem f83_73 : z_fetch 83 73 = some (.aload 0, 74, 0) := by decide +kernel
theorem f83_74 : z_fetch 83 74 = some (.instanceof 10, 77, 6) := by decide +kernel
theorem f83_77 : z_fetch 83 77 = some (.getfield 6, 80, 2) := by decide +kernel
theorem f83_80 : z_fetch 83 80 = some (.aload 0, 81, 0) := by decide +kernel
theorem f83_81 : z_fetch 83 81 = some (.instanceof 10, 84, 5) := by decide +kernel
theorem f83_84 : z_fetch 83 84 = some (.getfield 6, 87, 2) := by decide +kernel
theorem f83_87 : z_fetch 83 87 = some (.isub, 88, 0) := by decide +kernel
theorem f83_88 : z_fetch 83 88 = some (.ireturn, 89, 0) := by decide +kernel
theorem f83_89 : z_fetch 83 89 = some (.iload 3, 90, 0) := by decide +kernel
theorem f83_90 : z_fetch 83 90 = some (.iconst 1, 91, 0) := by decide +kernel
theorem f83_91 : z_fetch 83 91 = some (.if_icmp .ne 0, 94, 104) := by decide +kernel
theorem f83_94 : z_fetch 83 94 = some (.aload 0, 95, 0) := by decide +kernel
theorem f83_95 : z_fetch 83 95 = some (.instanceof 10, 98, 6) := by decide +kernel
theorem f83_98 : z_fetch 83 98 = some (.invokevirtual 38, 101, 0) := by decide +kernel
theorem f83_101 : z_fetch 83 101 = some (.goto 0, 104, 106) := by decide +kernel
theorem f83_104 : z_fetch 83 104 = some (.iload 5, 106, 0) := by decide +kernel
theorem f83_106 : z_fetch 83 106 = some (.ireturn, 107, 0) := by decide +kernel
theorem f84_0 : z_fetch 84 0 = some (.aload 0, 1, 0) := by decide +kernel
theorem f84_1 : z_fetch 84 1 = some (.iload 1, 2, 0) := by decide +kernel
theorem f84_2 : z_fetch 84 2 = some (.invokevirtual 101, 5, 0) := by decide +kernel
theorem f84_5 : z_fetch 84 5 = some (.ifCond .ne 0, 8, 10) := by decide +kernel
theorem f84_8 : z_fetch 84 8 = some (.iconst (-1), 9, 0) := by decide +kernel
theorem f84_9 : z_fetch 84 9 = some (.ireturn, 10, 0) := by decide +kernel
theorem f84_10 : z_fetch 84 10 = some (.aload 0, 11, 0) := by decide +kernel
theorem f84_11 : z_fetch 84 11 = some (.iload 1, 12, 0) := by decide +kernel
theorem f84_12 : z_fetch 84 12 = some (.invokevirtual 105, 15, 0) := by decide +kernel
theorem f84_15 : z_fetch 84 15 = some (.aload 0, 16, 0) := by decide +kernel
theorem f84_16 : z_fetch 84 16 = some (.instanceof 10, 19, 11) := by decide +kernel
theorem f84_19 : z_fetch 84 19 = some (.iconst 0, 20, 0) := by decide +kernel
theorem f84_20 : z_fetch 84 20 = some (.invokevirtual 68, 23, 0) := by decide +kernel
theorem f84_23 : z_fetch 84 23 = some (.ireturn, 24, 0) := by decide +kernel
theorem f85_0 : z_fetch 85 0 = some (.aload 0, 1, 0) := by decide +kernel
theorem f85_1 : z_fetch 85 1 = some (.iload 1, 2, 0) := by decide +kernel
theorem f85_2 : z_fetch 85 2 = some (.invokevirtual 101, 5, 0) := by decide +kernel
theorem f85_5 : z_fetch 85 5 = some (.ifCond .ne 0, 8, 10) := by decide +kernel
theorem f85_8 : z_fetch 85 8 = some (.iconst (-1), 9, 0) := by decide +kernel
theorem f85_9 : z_fetch 85 9 = some (.ireturn, 10, 0) := by decide +kernel
theorem f85_10 : z_fetch 85 10 = some (.aload 0, 11, 0) := by decide +kernel
theorem f85_11 : z_fetch 85 11 = some (.iload 1, 12, 0) := by decide +kernel
theorem f85_12 : z_fetch 85 12 = some (.invokevirtual 105, 15, 0) := by decide +kernel
theorem f85_15 : z_fetch 85 15 = some (.aload 0, 16, 0) := by decide +kernel
theorem f85_16 : z_fetch 85 16 = some (.instanceof 10, 19, 11) := by decide +kernel
theorem f85_19 : z_fetch 85 19 = some (.invokevirtual 69, 22, 0) := by decide +kernel
theorem f85_22 : z_fetch 85 22 = some (.ireturn, 23, 0) := by decide +kernel
theorem f86_0 : z_fetch 86 0 = some (.aload 0, 1, 0) := by decide +kernel
theorem f86_1 : z_fetch 86 1 = some (.invokevirtual 99, 4, 0) := by decide +kernel
theorem f86_4 : z_fetch 86 4 = some (.ifCond .ne 0, 7, 9) := by decide +kernel
theorem f86_7 : z_fetch 86 7 = some (.iconst (-1), 8, 0) := by decide +kernel
theorem f86_8 : z_fetch 86 8 = some (.ireturn, 9, 0) := by decide +kernel
theorem f86_9 : z_fetch 86 9 = some (.iconst 0, 10, 0) := by decide +kernel
theorem f86_10 : z_fetch 86 10 = some (.istore 1, 11, 0) := by decide +kernel
theorem f86_11 : z_fetch 86 11 = some (.iconst 0, 12, 0) := by decide +kernel
theorem f86_12 : z_fetch 86 12 = some (.istore 2, 13, 0) := by decide +kernel
theorem f86_13 : z_fetch 86 13 = some (.iload 2, 14, 0) := by decide +kernel
theorem f86_14 : z_fetch 86 14 = some (.aload 0, 15, 0) := by decide +kernel
theorem f86_15 : z_fetch 86 15 = some (.instanceof 10, 18, 5) := by decide +kernel
theorem f86_18 : z_fetch 86 18 = some (.instanceof 6, 21, 0) := by decide +kernel
theorem f86_21 : z_fetch 86 21 = some (.getfield 3, 24, 2) := by decide +kernel
theorem f86_24 : z_fetch 86 24 = some (.if_icmp .ge 0, 27, 55) := by decide +kernel
theorem f86_27 : z_fetch 86 27 = some (.aload 0, 28, 0) := by decide +kernel
theorem f86_28 : z_fetch 86 28 = some (.iload 2, 29, 0) := by decide +kernel
theorem f86_29 : z_fetch 86 29 = some (.invokevirtual 105, 32, 0) := by decide +kernel
theorem f86_32 : z_fetch 86 32 = some (.aload 0, 33, 0) := by decide +kernel
theorem f86_33 : z_fetch 86 33 = some (.instanceof 10, 36, 11) := by decide +kernel
theorem f86_36 : z_fetch 86 36 = some (.iconst 0, 37, 0) := by decide +kernel
theorem f86_37 : z_fetch 86 37 = some (.invokevirtual 67, 40, 0) := by decide +kernel
theorem f86_40 : z_fetch 86 40 = some (.ifCond .eq 0, 43, 49) := by decide +kernel
theorem f86_43 : z_fetch 86 43 = some (.iload 1, 44, 0) := by decide +kernel
theorem f86_44 : z_fetch 86 44 = some (.iconst 1, 45, 0) := by decide +kernel
theorem f86_45 : z_fetch 86 45 = some (.iload 2, 46, 0) := by decide +kernel
theorem f86_46 : z_fetch 86 46 = some (.ishl, 47, 0) := by decide +kernel
theorem f86_47 : z_fetch 86 47 = some (.ior, 48, 0) := by decide +kernel
theorem f86_48 : z_fetch 86 48 = some (.istore 1, 49, 0) := by decide +kernel
theorem f86_49 : z_fetch 86 49 = some (.iinc 2 1, 52, 0) := by decide +kernel
theorem f86_52 : z_fetch 86 52 = some (.goto 0, 55, 13) := by decide +kernel
theorem f86_55 : z_fetch 86 55 = some (.iload 1, 56, 0) := by decide +kernel
theorem f86_56 : z_fetch 86 56 = some (.ireturn, 57, 0) := by decide +kernel
theorem f87_0 : z_fetch 87 0 = some (.aload 0, 1, 0) := by decide +kernel
theorem f87_1 : z_fetch 87 1 = some (.invokevirtual 99, 4, 0) := by decide +kernel
theorem f87_4 : z_fetch 87 4 = some (.ifCond .ne 0, 7, 9) := by decide +kernel
theorem f87_7 : z_fetch 87 7 = some (.iconst (-1), 8, 0) := by decide +kernel
theorem f87_8 : z_fetch 87 8 = some (.ireturn, 9, 0) := by decide +kernel
theorem f87_9 : z_fetch 87 9 = some (.iconst 0, 10, 0) := by decide +kernel
theorem f87_10 : z_fetch 87 10 = some (.istore 1, 11, 0) := by decide +kernel
theorem f87_11 : z_fetch 87 11 = some (.iconst 0, 12, 0) := by decide +kernel
theorem f87_12 : z_fetch 87 12 = some (.istore 2, 13, 0) := by decide +kernel
theorem f87_13 : z_fetch 87 13 = some (.iload 2, 14, 0) := by decide +kernel
theorem f87_14 : z_fetch 87 14 = some (.aload 0, 15, 0) := by decide +kernel
theorem f87_15 : z_fetch 87 15 = some (.instanceof 10, 18, 5) := by decide +kernel
theorem f87_18 : z_fetch 87 18 = some (.instanceof 6, 21, 0) := by decide +kernel
theorem f87_21 : z_fetch 87 21 = some (.getfield 3, 24, 2) := by decide +kernel
theorem f87_24 : z_fetch 87 24 = some (.if_icmp .ge 0, 27, 65) := by decide +kernel
theorem f87_27 : z_fetch 87 27 = some (.aload 0, 28, 0) := by decide +kernel
theorem f87_28 : z_fetch 87 28 = some (.iload 2, 29, 0) := by decide +kernel
theorem f87_29 : z_fetch 87 29 = some (.invokevirtual 105, 32, 0) := by decide +kernel
theorem f87_32 : z_fetch 87 32 = some (.aload 0, 33, 0) := by decide +kernel
theorem f87_33 : z_fetch 87 33 = some (.instanceof 10, 36, 11) := by decide +kernel
theorem f87_36 : z_fetch 87 36 = some (.iconst 0, 37, 0) := by decide +kernel
theorem f87_37 : z_fetch 87 37 = some (.invokevirtual 67, 40, 0) := by decide +kernel
theorem f87_40 : z_fetch 87 40 = some (.ifCond .eq 0, 43, 59) := by decide +kernel
theorem f87_43 : z_fetch 87 43 = some (.aload 0, 44, 0) := by decide +kernel
theorem f87_44 : z_fetch 87 44 = some (.instanceof 10, 47, 13) := by decide +kernel
theorem f87_47 : z_fetch 87 47 = some (.iload 1, 48, 0) := by decide +kernel
theorem f87_48 : z_fetch 87 48 = some (.aload 0, 49, 0) := by decide +kernel
theorem f87_49 : z_fetch 87 49 = some (.instanceof 10, 52, 11) := by decide +kernel
theorem f87_52 : z_fetch 87 52 = some (.getfield 9, 55, 9) := by decide +kernel
theorem f87_55 : z_fetch 87 55 = some (.iastore, 56, 0) := by decide +kernel
theorem f87_56 : z_fetch 87 56 = some (.iinc 1 1, 59, 0) := by decide +kernel
theorem f87_59 : z_fetch 87 59 = some (.iinc 2 1, 62, 0) := by decide +kernel
theorem f87_62 : z_fetch 87 62 = some (.goto 0, 65, 13) := by decide +kernel
theorem f87_65 : z_fetch 87 65 = some (.iconst 1, 66, 0) := by decide +kernel
theorem f87_66 : z_fetch 87 66 = some (.aload 0, 67, 0) := by decide +kernel
theorem f87_67 : z_fetch 87 67 = some (.instanceof 10, 70, 5) := by decide +kernel
theorem f87_70 : z_fetch 87 70 = some (.instanceof 6, 73, 0) := by decide +kernel
theorem f87_73 : z_fetch 87 73 = some (.getfield 3, 76, 0) := by decide +kernel
theorem f87_76 : z_fetch 87 76 = some (.ishl, 77, 0) := by decide +kernel
theorem f87_77 : z_fetch 87 77 = some (.iconst 1, 78, 0) := by decide +kernel
theorem f87_78 : z_fetch 87 78 = some (.isub, 79, 0) := by decide +kernel
theorem f87_79 : z_fetch 87 79 = some (.istore 2, 80, 0) := by decide +kernel
theorem f87_80 : z_fetch 87 80 = some (.iload 2, 81, 0) := by decide +kernel
theorem f87_81 : z_fetch 87 81 = some (.istore 3, 82, 0) := by decide +kernel
theorem f87_82 : z_fetch 87 82 = some (.iconst 0, 83, 0) := by decide +kernel
theorem f87_83 : z_fetch 87 83 = some (.istore 4, 85, 0) := by decide +kernel
theorem f87_85 : z_fetch 87 85 = some (.iload 4, 87, 0) := by decide +kernel
theorem f87_87 : z_fetch 87 87 = some (.iload 2, 88, 0) := by decide +kernel
theorem f87_88 : z_fetch 87 88 = some (.if_icmp .ge 0, 91, 122) := by decide +kernel
theorem f87_91 : z_fetch 87 91 = some (.iload 4, 93, 0) := by decide +kernel
theorem f87_93 : z_fetch 87 93 = some (.invokestatic 205, 96, 0) := by decide +kernel
theorem f87_96 : z_fetch 87 96 = some (.iload 3, 97, 0) := by decide +kernel
theorem f87_97 : z_fetch 87 97 = some (.invokestatic 205, 100, 0) := by decide +kernel
theorem f87_100 : z_fetch 87 100 = some (.if_icmp .ge 0, 103, 116) := by decide +kernel
theorem f87_103 : z_fetch 87 103 = some (.aload 0, 104, 0) := by decide +kernel
theorem f87_104 : z_fetch 87 104 = some (.iload 4, 106, 0) := by decide +kernel
theorem f87_106 : z_fetch 87 106 = some (.iload 1, 107, 0) := by decide +kernel
theorem f87_107 : z_fetch 87 107 = some (.invokevirtual 106, 110, 0) := by decide +kernel
theorem f87_110 : z_fetch 87 110 = some (.ifCond .eq 0, 113, 116) := by decide +kernel
theorem f87_113 : z_fetch 87 113 = some (.iload 4, 115, 0) := by decide +kernel
theorem f87_115 : z_fetch 87 115 = some (.istore 3, 116, 0) := by decide +kernel
theorem f87_116 : z_fetch 87 116 = some (.iinc 4 1, 119, 0) := by decide +kernel
theorem f87_119 : z_fetch 87 119 = some (.goto 0, 122, 85) := by decide +kernel
theorem f87_122 : z_fetch 87 122 = some (.iload 3, 123, 0) := by decide +kernel
theorem f87_123 : z_fetch 87 123 = some (.ireturn, 124, 0) := by decide +kernel
theorem f88_0 : z_fetch 88 0 = some (.aload 0, 1, 0) := by decide +kernel
theorem f88_1 : z_fetch 88 1 = some (.iload 1, 2, 0) := by decide +kernel
theorem f88_2 : z_fetch 88 2 = some (.invokevirtual 102, 5, 0) := by decide +kernel
theorem f88_5 : z_fetch 88 5 = some (.ifCond .ne 0, 8, 10) := by decide +kernel
theorem f88_8 : z_fetch 88 8 = some (.iconst (-1), 9, 0) := by decide +kernel
theorem f88_9 : z_fetch 88 9 = some (.ireturn, 10, 0) := by decide +kernel
theorem f88_10 : z_fetch 88 10 = some (.iconst 0, 11, 0) := by decide +kernel
theorem f88_11 : z_fetch 88 11 = some (.istore 2, 12, 0) := by decide +kernel
theorem f88_12 : z_fetch 88 12 = some (.iconst 0, 13, 0) := by decide +kernel
theorem f88_13 : z_fetch 88 13 = some (.istore 3, 14, 0) := by decide +kernel
theorem f88_14 : z_fetch 88 14 = some (.iload 3, 15, 0) := by decide +kernel
theorem f88_15 : z_fetch 88 15 = some (.aload 0, 16, 0) := by decide +kernel
theorem f88_16 : z_fetch 88 16 = some (.instanceof 10, 19, 5) := by decide +kernel
theorem f88_19 : z_fetch 88 19 = some (.instanceof 6, 22, 0) := by decide +kernel
theorem f88_22 : z_fetch 88 22 = some (.getfield 3, 25, 2) := by decide +kernel
theorem f88_25 : z_fetch 88 25 = some (.if_icmp .ge 0, 28, 78) := by decide +kernel
theorem f88_28 : z_fetch 88 28 = some (.aload 0, 29, 0) := by decide +kernel
theorem f88_29 : z_fetch 88 29 = some (.iload 3, 30, 0) := by decide +kernel
theorem f88_30 : z_fetch 88 30 = some (.invokevirtual 105, 33, 0) := by decide +kernel
theorem f88_33 : z_fetch 88 33 = some (.aload 0, 34, 0) := by decide +kernel
theorem f88_34 : z_fetch 88 34 = some (.instanceof 10, 37, 11) := by decide +kernel
theorem f88_37 : z_fetch 88 37 = some (.iconst 1, 38, 0) := by decide +kernel
theorem f88_38 : z_fetch 88 38 = some (.iload 1, 39, 0) := by decide +kernel
theorem f88_39 : z_fetch 88 39 = some (.ishl, 40, 0) := by decide +kernel
theorem f88_40 : z_fetch 88 40 = some (.invokevirtual 67, 43, 0) := by decide +kernel
theorem f88_43 : z_fetch 88 43 = some (.ifCond .eq 0, 46, 72) := by decide +kernel
theorem f88_46 : z_fetch 88 46 = some (.aload 0, 47, 0) := by decide +kernel
theorem f88_47 : z_fetch 88 47 = some (.instanceof 10, 50, 11) := by decide +kernel
theorem f88_50 : z_fetch 88 50 = some (.iconst 0, 51, 0) := by decide +kernel
theorem f88_51 : z_fetch 88 51 = some (.invokevirtual 67, 54, 0) := by decide +kernel
theorem f88_54 : z_fetch 88 54 = some (.ifCond .ne 0, 57, 72) := by decide +kernel
theorem f88_57 : z_fetch 88 57 = some (.iload 2, 58, 0) := by decide +kernel
theorem f88_58 : z_fetch 88 58 = some (.aload 0, 59, 0) := by decide +kernel
theorem f88_59 : z_fetch 88 59 = some (.instanceof 10, 62, 5) := by decide +kernel
theorem f88_62 : z_fetch 88 62 = some (.instanceof 6, 65, 5) := by decide +kernel
theorem f88_65 : z_fetch 88 65 = some (.iload 3, 66, 0) := by decide +kernel
theorem f88_66 : z_fetch 88 66 = some (.aaload, 67, 0) := by decide +kernel
theorem f88_67 : z_fetch 88 67 = some (.getfield 1, 70, 0) := by decide +kernel
theorem f88_70 : z_fetch 88 70 = some (.iadd, 71, 0) := by decide +kernel
theorem f88_71 : z_fetch 88 71 = some (.istore 2, 72, 0) := by decide +kernel
theorem f88_72 : z_fetch 88 72 = some (.iinc 3 1, 75, 0) := by decide +kernel
theorem f88_75 : z_fetch 88 75 = some (.goto 0, 78, 14) := by decide +kernel
theorem f88_78 : z_fetch 88 78 = some (.iload 2, 79, 0) := by decide +kernel
theorem f88_79 : z_fetch 88 79 = some (.ireturn, 80, 0) := by decide +kernel
theorem f89_0 : z_fetch 89 0 = some (.aload 0, 1, 0) := by decide +kernel
theorem f89_1 : z_fetch 89 1 = some (.iload 2, 2, 0) := by decide +kernel
theorem f89_2 : z_fetch 89 2 = some (.invokevirtual 100, 5, 0) := by decide +kernel
theorem f89_5 : z_fetch 89 5 = some (.ifCond .eq 0, 8, 19) := by decide +kernel
theorem f89_8 : z_fetch 89 8 = some (.iload 1, 9, 0) := by decide +kernel
theorem f89_9 : z_fetch 89 9 = some (.iconst 3, 10, 0) := by decide +kernel
theorem f89_10 : z_fetch 89 10 = some (.if_icmp .lt 0, 13, 19) := by decide +kernel
theorem f89_13 : z_fetch 89 13 = some (.iload 1, 14, 0) := by decide +kernel
theorem f89_14 : z_fetch 89 14 = some (.iconst 6, 16, 0) := by decide +kernel
theorem f89_16 : z_fetch 89 16 = some (.if_icmp .le 0, 19, 21) := by decide +kernel
theorem f89_19 : z_fetch 89 19 = some (.iconst (-1), 20, 0) := by decide +kernel
theorem f89_20 : z_fetch 89 20 = some (.ireturn, 21, 0) := by decide +kernel
theorem f89_21 : z_fetch 89 21 = some (.aload 0, 22, 0) := by decide +kernel
theorem f89_22 : z_fetch 89 22 = some (.instanceof 10, 25, 5) := by decide +kernel
theorem f89_25 : z_fetch 89 25 = some (.instanceof 6, 28, 0) := by decide +kernel
theorem f89_28 : z_fetch 89 28 = some (.astore 3, 29, 0) := by decide +kernel
theorem f89_29 : z_fetch 89 29 = some (.aload 0, 30, 0) := by decide +kernel
theorem f89_30 : z_fetch 89 30 = some (.instanceof 10, 33, 14) := by decide +kernel
theorem f89_33 : z_fetch 89 33 = some (.iconst 0, 34, 0) := by decide +kernel
theorem f89_34 : z_fetch 89 34 = some (.invokestatic 212, 37, 0) := by decide +kernel
theorem f89_37 : z_fetch 89 37 = some (.iconst 0, 38, 0) := by decide +kernel
theorem f89_38 : z_fetch 89 38 = some (.istore 4, 40, 0) := by decide +kernel
theorem f89_40 : z_fetch 89 40 = some (.iload 4, 42, 0) := by decide +kernel
theorem f89_42 : z_fetch 89 42 = some (.aload 3, 43, 0) := by decide +kernel
theorem f89_43 : z_fetch 89 43 = some (.getfield 3, 46, 3) := by decide +kernel
theorem f89_46 : z_fetch 89 46 = some (.if_icmp .ge 0, 49, 103) := by decide +kernel
theorem f89_49 : z_fetch 89 49 = some (.aload 0, 50, 0) := by decide +kernel
theorem f89_50 : z_fetch 89 50 = some (.instanceof 10, 53, 14) := by decide +kernel
theorem f89_53 : z_fetch 89 53 = some (.aload 3, 54, 0) := by decide +kernel
theorem f89_54 : z_fetch 89 54 = some (.instanceof 3, 57, 8) := by decide +kernel
theorem f89_57 : z_fetch 89 57 = some (.iload 4, 59, 0) := by decide +kernel
theorem f89_59 : z_fetch 89 59 = some (.iaload, 60, 0) := by decide +kernel
theorem f89_60 : z_fetch 89 60 = some (.dup2, 61, 0) := by decide +kernel
theorem f89_61 : z_fetch 89 61 = some (.iaload, 62, 0) := by decide +kernel
theorem f89_62 : z_fetch 89 62 = some (.iconst 1, 63, 0) := by decide +kernel
theorem f89_63 : z_fetch 89 63 = some (.aload 3, 64, 0) := by decide +kernel
theorem f89_64 : z_fetch 89 64 = some (.instanceof 3, 67, 9) := by decide +kernel
theorem f89_67 : z_fetch 89 67 = some (.iload 4, 69, 0) := by decide +kernel
theorem f89_69 : z_fetch 89 69 = some (.iaload, 70, 0) := by decide +kernel
theorem f89_70 : z_fetch 89 70 = some (.ishl, 71, 0) := by decide +kernel
theorem f89_71 : z_fetch 89 71 = some (.ior, 72, 0) := by decide +kernel
theorem f89_72 : z_fetch 89 72 = some (.iastore, 73, 0) := by decide +kernel
theorem f89_73 : z_fetch 89 73 = some (.aload 0, 74, 0) := by decide +kernel
theorem f89_74 : z_fetch 89 74 = some (.instanceof 10, 77, 14) := by decide +kernel
theorem f89_77 : z_fetch 89 77 = some (.aload 3, 78, 0) := by decide +kernel
theorem f89_78 : z_fetch 89 78 = some (.instanceof 3, 81, 9) := by decide +kernel
theorem f89_81 : z_fetch 89 81 = some (.iload 4, 83, 0) := by decide +kernel
theorem f89_83 : z_fetch 89 83 = some (.iaload, 84, 0) := by decide +kernel
theorem f89_84 : z_fetch 89 84 = some (.dup2, 85, 0) := by decide +kernel
theorem f89_85 : z_fetch 89 85 = some (.iaload, 86, 0) := by decide +kernel
theorem f89_86 : z_fetch 89 86 = some (.iconst 1, 87, 0) := by decide +kernel
theorem f89_87 : z_fetch 89 87 = some (.aload 3, 88, 0) := by decide +kernel
theorem f89_88 : z_fetch 89 88 = some (.instanceof 3, 91, 8) := by decide +kernel
theorem f89_91 : z_fetch 89 91 = some (.iload 4, 93, 0) := by decide +kernel
theorem f89_93 : z_fetch 89 93 = some (.iaload, 94, 0) := by decide +kernel
theorem f89_94 : z_fetch 89 94 = some (.ishl, 95, 0) := by decide +kernel
theorem f89_95 : z_fetch 89 95 = some (.ior, 96, 0) := by decide +kernel
theorem f89_96 : z_fetch 89 96 = some (.iastore, 97, 0) := by decide +kernel
theorem f89_97 : z_fetch 89 97 = some (.iinc 4 1, 100, 0) := by decide +kernel
theorem f89_100 : z_fetch 89 100 = some (.goto 0, 103, 40) := by decide +kernel
theorem f89_103 : z_fetch 89 103 = some (.aload 0, 104, 0) := by decide +kernel
theorem f89_104 : z_fetch 89 104 = some (.instanceof 10, 107, 14) := by decide +kernel
theorem f89_107 : z_fetch 89 107 = some (.iload 2, 108, 0) := by decide +kernel
theorem f89_108 : z_fetch 89 108 = some (.iload 2, 109, 0) := by decide +kernel
theorem f89_109 : z_fetch 89 109 = some (.iconst 1, 110, 0) := by decide +kernel
theorem f89_110 : z_fetch 89 110 = some (.iload 2, 111, 0) := by decide +kernel
theorem f89_111 : z_fetch 89 111 = some (.ishl, 112, 0) := by decide +kernel
theorem f89_112 : z_fetch 89 112 = some (.iload 1, 113, 0) := by decide +kernel
theorem f89_113 : z_fetch 89 113 = some (.iconst 1, 114, 0) := by decide +kernel
theorem f89_114 : z_fetch 89 114 = some (.isub, 115, 0) := by decide +kernel
theorem f89_115 : z_fetch 89 115 = some (.invokestatic 107, 118, 0) := by decide +kernel
theorem f89_118 : z_fetch 89 118 = some (.iconst 2, 119, 0) := by decide +kernel
theorem f89_119 : z_fetch 89 119 = some (.idiv, 120, 0) := by decide +kernel
theorem f89_120 : z_fetch 89 120 = some (.ireturn, 121, 0) := by decide +kernel
theorem f90_0 : z_fetch 90 0 = some (.aload 0, 1, 0) := by decide +kernel
theorem f90_1 : z_fetch 90 1 = some (.iload 1, 2, 0) := by decide +kernel
theorem f90_2 : z_fetch 90 2 = some (.invokevirtual 100, 5, 0) := by decide +kernel
theorem f90_5 : z_fetch 90 5 = some (.ifCond .eq 0, 8, 20) := by decide +kernel
theorem f90_8 : z_fetch 90 8 = some (.iload 2, 9, 0) := by decide +kernel
theorem f90_9 : z_fetch 90 9 = some (.iconst 1, 10, 0) := by decide +kernel
theorem f90_10 : z_fetch 90 10 = some (.if_icmp .lt 0, 13, 20) := by decide +kernel
theorem f90_13 : z_fetch 90 13 = some (.iload 2, 14, 0) := by decide +kernel
theorem f90_14 : z_fetch 90 14 = some (.iconst 400, 17, 0) := by decide +kernel
theorem f90_17 : z_fetch 90 17 = some (.if_icmp .le 0, 20, 22) := by decide +kernel
theorem f90_20 : z_fetch 90 20 = some (.iconst (-1), 21, 0) := by decide +kernel
theorem f90_21 : z_fetch 90 21 = some (.ireturn, 22, 0) := by decide +kernel
theorem f90_22 : z_fetch 90 22 = some (.aload 0, 23, 0) := by decide +kernel
theorem f90_23 : z_fetch 90 23 = some (.aload 0, 24, 0) := by decide +kernel
theorem f90_24 : z_fetch 90 24 = some (.instanceof 10, 27, 5) := by decide +kernel
theorem f90_27 : z_fetch 90 27 = some (.getfield 6, 30, 3) := by decide +kernel
theorem f90_30 : z_fetch 90 30 = some (.invokevirtual 103, 33, 0) := by decide +kernel
theorem f90_33 : z_fetch 90 33 = some (.astore 3, 34, 0) := by decide +kernel
theorem f90_34 : z_fetch 90 34 = some (.iconst 0, 35, 0) := by decide +kernel
theorem f90_35 : z_fetch 90 35 = some (.istore 4, 37, 0) := by decide +kernel
theorem f90_37 : z_fetch 90 37 = some (.iload 4, 39, 0) := by decide +kernel
theorem f90_39 : z_fetch 90 39 = some (.iload 2, 40, 0) := by decide +kernel
theorem f90_40 : z_fetch 90 40 = some (.if_icmp .ge 0, 43, 110) := by decide +kernel
theorem f90_43 : z_fetch 90 43 = some (.aload 0, 44, 0) := by decide +kernel
theorem f90_44 : z_fetch 90 44 = some (.instanceof 10, 47, 5) := by decide +kernel
theorem f90_47 : z_fetch 90 47 = some (.getfield 6, 50, 1) := by decide +kernel
theorem f90_50 : z_fetch 90 50 = some (.iload 4, 52, 0) := by decide +kernel
theorem f90_52 : z_fetch 90 52 = some (.iadd, 53, 0) := by decide +kernel
theorem f90_53 : z_fetch 90 53 = some (.istore 5, 55, 0) := by decide +kernel
theorem f90_55 : z_fetch 90 55 = some (.aload 0, 56, 0) := by decide +kernel
theorem f90_56 : z_fetch 90 56 = some (.instanceof 10, 59, 8) := by decide +kernel
theorem f90_59 : z_fetch 90 59 = some (.iconst 1, 60, 0) := by decide +kernel
theorem f90_60 : z_fetch 90 60 = some (.iload 1, 61, 0) := by decide +kernel
theorem f90_61 : z_fetch 90 61 = some (.iload 5, 63, 0) := by decide +kernel
theorem f90_63 : z_fetch 90 63 = some (.invokevirtual 9, 66, 0) := by decide +kernel
theorem f90_66 : z_fetch 90 66 = some (.aload 0, 67, 0) := by decide +kernel
theorem f90_67 : z_fetch 90 67 = some (.instanceof 10, 70, 11) := by decide +kernel
theorem f90_70 : z_fetch 90 70 = some (.aload 3, 71, 0) := by decide +kernel
theorem f90_71 : z_fetch 90 71 = some (.aload 0, 72, 0) := by decide +kernel
theorem f90_72 : z_fetch 90 72 = some (.instanceof 10, 75, 8) := by decide +kernel
theorem f90_75 : z_fetch 90 75 = some (.aload 0, 76, 0) := by decide +kernel
theorem f90_76 : z_fetch 90 76 = some (.instanceof 10, 79, 5) := by decide +kernel
theorem f90_79 : z_fetch 90 79 = some (.instanceof 6, 82, 0) := by decide +kernel
theorem f90_82 : z_fetch 90 82 = some (.getfield 3, 85, 2) := by decide +kernel
theorem f90_85 : z_fetch 90 85 = some (.iload 5, 87, 0) := by decide +kernel
theorem f90_87 : z_fetch 90 87 = some (.invokevirtual 63, 90, 0) := by decide +kernel
theorem f90_90 : z_fetch 90 90 = some (.aload 0, 91, 0) := by decide +kernel
theorem f90_91 : z_fetch 90 91 = some (.instanceof 10, 94, 11) := by decide +kernel
theorem f90_94 : z_fetch 90 94 = some (.iconst 0, 95, 0) := by decide +kernel
theorem f90_95 : z_fetch 90 95 = some (.invokevirtual 67, 98, 0) := by decide +kernel
theorem f90_98 : z_fetch 90 98 = some (.ifCond .eq 0, 101, 104) := by decide +kernel
theorem f90_101 : z_fetch 90 101 = some (.iload 5, 103, 0) := by decide +kernel
theorem f90_103 : z_fetch 90 103 = some (.ireturn, 104, 0) := by decide +kernel
theorem f90_104 : z_fetch 90 104 = some (.iinc 4 1, 107, 0) := by decide +kernel
theorem f90_107 : z_fetch 90 107 = some (.goto 0, 110, 37) := by decide +kernel
theorem f90_110 : z_fetch 90 110 = some (.iconst (-2), 112, 0) := by decide +kernel
theorem f90_112 : z_fetch 90 112 = some (.ireturn, 113, 0) := by decide +kernel
theorem f91_0 : z_fetch 91 0 = some (.aload 0, 1, 0) := by decide +kernel
theorem f91_1 : z_fetch 91 1 = some (.iload 1, 2, 0) := by decide +kernel
theorem f91_2 : z_fetch 91 2 = some (.invokevirtual 101, 5, 0) := by decide +kernel
theorem f91_5 : z_fetch 91 5 = some (.ifCond .eq 0, 8, 18) := by decide +kernel
theorem f91_8 : z_fetch 91 8 = some (.iload 2, 9, 0) := by decide +kernel
theorem f91_9 : z_fetch 91 9 = some (.iconst (-1), 10, 0) := by decide +kernel
theorem f91_10 : z_fetch 91 10 = some (.if_icmp .lt 0, 13, 18) := by decide +kernel
theorem f91_13 : z_fetch 91 13 = some (.iload 2, 14, 0) := by decide +kernel
theorem f91_14 : z_fetch 91 14 = some (.iconst 1, 15, 0) := by decide +kernel
theorem f91_15 : z_fetch 91 15 = some (.if_icmp .le 0, 18, 20) := by decide +kernel
theorem f91_18 : z_fetch 91 18 = some (.iconst 0, 19, 0) := by decide +kernel
theorem f91_19 : z_fetch 91 19 = some (.ireturn, 20, 1) := by decide +kernel
theorem f91_20 : z_fetch 91 20 = some (.aload 0, 21, 0) := by decide +kernel
theorem f91_21 : z_fetch 91 21 = some (.instanceof 10, 24, 5) := by decide +kernel
theorem f91_24 : z_fetch 91 24 = some (.instanceof 6, 27, 5) := by decide +kernel
theorem f91_27 : z_fetch 91 27 = some (.iload 1, 28, 0) := by decide +kernel
theorem f91_28 : z_fetch 91 28 = some (.aaload, 29, 0) := by decide +kernel
theorem f91_29 : z_fetch 91 29 = some (.iload 2, 30, 0) := by decide +kernel
theorem f91_30 : z_fetch 91 30 = some (.putfield 1, 33, 6) := by decide +kernel
theorem f91_33 : z_fetch 91 33 = some (.iconst 1, 34, 0) := by decide +kernel
theorem f91_34 : z_fetch 91 34 = some (.ireturn, 35, 1) := by decide +kernel
theorem f92_0 : z_fetch 92 0 = some (.aload 0, 1, 0) := by decide +kernel
theorem f92_1 : z_fetch 92 1 = some (.invokevirtual 99, 4, 0) := by decide +kernel
theorem f92_4 : z_fetch 92 4 = some (.ifCond .eq 0, 7, 16) := by decide +kernel
theorem f92_7 : z_fetch 92 7 = some (.iload 1, 8, 0) := by decide +kernel
theorem f92_8 : z_fetch 92 8 = some (.ifCond .lt 0, 11, 16) := by decide +kernel
theorem f92_11 : z_fetch 92 11 = some (.iload 1, 12, 0) := by decide +kernel
theorem f92_12 : z_fetch 92 12 = some (.iconst 2, 13, 0) := by decide +kernel
theorem f92_13 : z_fetch 92 13 = some (.if_icmp .le 0, 16, 18) := by decide +kernel
theorem f92_16 : z_fetch 92 16 = some (.iconst (-1), 17, 0) := by decide +kernel
theorem f92_17 : z_fetch 92 17 = some (.ireturn, 18, 0) := by decide +kernel
theorem f92_18 : z_fetch 92 18 = some (.iconst 1, 19, 0) := by decide +kernel
theorem f92_19 : z_fetch 92 19 = some (.aload 0, 20, 0) := by decide +kernel
theorem f92_20 : z_fetch 92 20 = some (.instanceof 10, 23, 5) := by decide +kernel
theorem f92_23 : z_fetch 92 23 = some (.instanceof 6, 26, 0) := by decide +kernel
theorem f92_26 : z_fetch 92 26 = some (.getfield 3, 29, 3) := by decide +kernel
theorem f92_29 : z_fetch 92 29 = some (.iconst 8, 31, 0) := by decide +kernel
theorem f92_31 : z_fetch 92 31 = some (.fneg, 34, 0) := by decide +kernel
theorem f92_34 : z_fetch 92 34 = some (.ishl, 35, 0) := by decide +kernel
theorem f92_35 : z_fetch 92 35 = some (.iconst 1, 36, 0) := by decide +kernel
theorem f92_36 : z_fetch 92 36 = some (.isub, 37, 0) := by decide +kernel
theorem f92_37 : z_fetch 92 37 = some (.istore 2, 38, 0) := by decide +kernel
theorem f92_38 : z_fetch 92 38 = some (.iconst 0, 39, 0) := by decide +kernel
theorem f92_39 : z_fetch 92 39 = some (.istore 3, 40, 0) := by decide +kernel
theorem f92_40 : z_fetch 92 40 = some (.iload 3, 41, 0) := by decide +kernel
theorem f92_41 : z_fetch 92 41 = some (.iload 2, 42, 0) := by decide +kernel
theorem f92_42 : z_fetch 92 42 = some (.if_icmp .gt 0, 45, 58) := by decide +kernel
theorem f92_45 : z_fetch 92 45 = some (.aload 0, 46, 0) := by decide +kernel
theorem f92_46 : z_fetch 92 46 = some (.instanceof 10, 49, 12) := by decide +kernel
theorem f92_49 : z_fetch 92 49 = some (.iload 3, 50, 0) := by decide +kernel
theorem f92_50 : z_fetch 92 50 = some (.iconst 1, 51, 0) := by decide +kernel
theorem f92_51 : z_fetch 92 51 = some (.bastore, 52, 0) := by decide +kernel
theorem f92_52 : z_fetch 92 52 = some (.iinc 3 1, 55, 0) := by decide +kernel
theorem f92_55 : z_fetch 92 55 = some (.goto 0, 58, 40) := by decide +kernel
theorem f92_58 : z_fetch 92 58 = some (.iconst 0, 59, 0) := by decide +kernel
theorem f92_59 : z_fetch 92 59 = some (.istore 3, 60, 0) := by decide +kernel
theorem f92_60 : z_fetch 92 60 = some (.iload 3, 61, 0) := by decide +kernel
theorem f92_61 : z_fetch 92 61 = some (.aload 0, 62, 0) := by decide +kernel
theorem f92_62 : z_fetch 92 62 = some (.instanceof 10, 65, 5) := by decide +kernel
theorem f92_65 : z_fetch 92 65 = some (.instanceof 6, 68, 0) := by decide +kernel
theorem f92_68 : z_fetch 92 68 = some (.getfield 3, 71, 2) := by decide +kernel
theorem f92_71 : z_fetch 92 71 = some (.if_icmp .ge 0, 74, 121) := by decide +kernel
theorem f92_74 : z_fetch 92 74 = some (.aload 0, 75, 0) := by decide +kernel
theorem f92_75 : z_fetch 92 75 = some (.instanceof 10, 78, 5) := by decide +kernel
theorem f92_78 : z_fetch 92 78 = some (.instanceof 6, 81, 5) := by decide +kernel
theorem f92_81 : z_fetch 92 81 = some (.iload 3, 82, 0) := by decide +kernel
theorem f92_82 : z_fetch 92 82 = some (.aaload, 83, 0) := by decide +kernel
theorem f92_83 : z_fetch 92 83 = some (.getfield 1, 86, 6) := by decide +kernel
theorem f92_86 : z_fetch 92 86 = some (.istore 4, 88, 0) := by decide +kernel
theorem f92_88 : z_fetch 92 88 = some (.iload 4, 90, 0) := by decide +kernel
theorem f92_90 : z_fetch 92 90 = some (.iconst (-1), 91, 0) := by decide +kernel
theorem f92_91 : z_fetch 92 91 = some (.if_icmp .eq 0, 94, 115) := by decide +kernel
theorem f92_94 : z_fetch 92 94 = some (.aload 0, 95, 0) := by decide +kernel
theorem f92_95 : z_fetch 92 95 = some (.iload 3, 96, 0) := by decide +kernel
theorem f92_96 : z_fetch 92 96 = some (.invokevirtual 105, 99, 0) := by decide +kernel
theorem f92_99 : z_fetch 92 99 = some (.aload 0, 100, 0) := by decide +kernel
theorem f92_100 : z_fetch 92 100 = some (.iload 2, 101, 0) := by decide +kernel
theorem f92_101 : z_fetch 92 101 = some (.iload 4, 103, 0) := by decide +kernel
theorem f92_103 : z_fetch 92 103 = some (.iconst 1, 104, 0) := by decide +kernel
theorem f92_104 : z_fetch 92 104 = some (.if_icmp .ne 0, 107, 111) := by decide +kernel
theorem f92_107 : z_fetch 92 107 = some (.iconst 1, 108, 0) := by decide +kernel
theorem f92_108 : z_fetch 92 108 = some (.goto 0, 111, 112) := by decide +kernel
theorem f92_111 : z_fetch 92 111 = some (.iconst 0, 112, 0) := by decide +kernel
theorem f92_112 : z_fetch 92 112 = some (.invokevirtual 108, 115, 0) := by decide +kernel
theorem f92_115 : z_fetch 92 115 = some (.iinc 3 1, 118, 0) := by decide +kernel
theorem f92_118 : z_fetch 92 118 = some (.goto 0, 121, 60) := by decide +kernel
theorem f92_121 : z_fetch 92 121 = some (.iconst 0, 122, 0) := by decide +kernel
theorem f92_122 : z_fetch 92 122 = some (.istore 3, 123, 0) := by decide +kernel
theorem f92_123 : z_fetch 92 123 = some (.iload 2, 124, 0) := by decide +kernel
theorem f92_124 : z_fetch 92 124 = some (.istore 4, 126, 0) := by decide +kernel
theorem f92_126 : z_fetch 92 126 = some (.iconst 0, 127, 0) := by decide +kernel
theorem f92_127 : z_fetch 92 127 = some (.istore 5, 129, 0) := by decide +kernel
theorem f92_129 : z_fetch 92 129 = some (.iconst 0, 130, 0) := by decide +kernel
theorem f92_130 : z_fetch 92 130 = some (.istore 6, 132, 0) := by decide +kernel
theorem f92_132 : z_fetch 92 132 = some (.iload 6, 134, 0) := by decide +kernel
theorem f92_134 : z_fetch 92 134 = some (.iload 2, 135, 0) := by decide +kernel
theorem f92_135 : z_fetch 92 135 = some (.if_icmp .gt 0, 138, 171) := by decide +kernel
theorem f92_138 : z_fetch 92 138 = some (.aload 0, 139, 0) := by decide +kernel
theorem f92_139 : z_fetch 92 139 = some (.instanceof 10, 142, 12) := by decide +kernel
theorem f92_142 : z_fetch 92 142 = some (.iload 6, 144, 0) := by decide +kernel
theorem f92_144 : z_fetch 92 144 = some (.baload, 145, 0) := by decide +kernel
theorem f92_145 : z_fetch 92 145 = some (.ifCond .eq 0, 148, 165) := by decide +kernel
theorem f92_148 : z_fetch 92 148 = some (.iinc 3 1, 151, 0) := by decide +kernel
theorem f92_151 : z_fetch 92 151 = some (.iload 4, 153, 0) := by decide +kernel
theorem f92_153 : z_fetch 92 153 = some (.iload 6, 155, 0) := by decide +kernel
theorem f92_155 : z_fetch 92 155 = some (.iand, 156, 0) := by decide +kernel
theorem f92_156 : z_fetch 92 156 = some (.istore 4, 158, 0) := by decide +kernel
theorem f92_158 : z_fetch 92 158 = some (.iload 5, 160, 0) := by decide +kernel
theorem f92_160 : z_fetch 92 160 = some (.iload 6, 162, 0) := by decide +kernel
theorem f92_162 : z_fetch 92 162 = some (.ior, 163, 0) := by decide +kernel
theorem f92_163 : z_fetch 92 163 = some (.istore 5, 165, 0) := by decide +kernel
theorem f92_165 : z_fetch 92 165 = some (.iinc 6 1, 168, 0) := by decide +kernel
theorem f92_168 : z_fetch 92 168 = some (.goto 0, 171, 132) := by decide +kernel
theorem f92_171 : z_fetch 92 171 = some (.iload 1, 172, 0) := by decide +kernel
theorem f92_172 : z_fetch 92 172 = some (.ifCond .eq 0, 175, 179) := by decide +kernel
theorem f92_175 : z_fetch 92 175 = some (.iload 3, 176, 0) := by decide +kernel
theorem f92_176 : z_fetch 92 176 = some (.ifCond .ne 0, 179, 181) := by decide +kernel
theorem f92_179 : z_fetch 92 179 = some (.iload 3, 180, 0) := by decide +kernel
theorem f92_180 : z_fetch 92 180 = some (.ireturn, 181, 0) := by decide +kernel
theorem f92_181 : z_fetch 92 181 = some (.iload 1, 182, 0) := by decide +kernel
theorem f92_182 : z_fetch 92 182 = some (.iconst 1, 183, 0) := by decide +kernel
theorem f92_183 : z_fetch 92 183 = some (.if_icmp .ne 0, 186, 191) := by decide +kernel
theorem f92_186 : z_fetch 92 186 = some (.iload 4, 188, 0) := by decide +kernel
theorem f92_188 : z_fetch 92 188 = some (.goto 0, 191, 197) := by decide +kernel
theorem f92_191 : z_fetch 92 191 = some (.iload 2, 192, 0) := by decide +kernel
theorem f92_192 : z_fetch 92 192 = some (.iload 5, 194, 0) := by decide +kernel
theorem f92_194 : z_fetch 92 194 = some (.iconst (-1), 195, 0) := by decide +kernel
theorem f92_195 : z_fetch 92 195 = some (.ixor, 196, 0) := by decide +kernel
theorem f92_196 : z_fetch 92 196 = some (.iand, 197, 0) := by decide +kernel
theorem f92_197 : z_fetch 92 197 = some (.ireturn, 198, 0) := by decide +kernel
theorem f93_0 : z_fetch 93 0 = some (.iload 1, 1, 0) := by decide +kernel
theorem f93_1 : z_fetch 93 1 = some (.ifCond .ge 0, 4, 6) := by decide +kernel
theorem f93_4 : z_fetch 93 4 = some (.iconst (-1), 5, 0) := by decide +kernel
theorem f93_5 : z_fetch 93 5 = some (.ireturn, 6, 0) := by decide +kernel
theorem f93_6 : z_fetch 93 6 = some (.aload 0, 7, 0) := by decide +kernel
theorem f93_7 : z_fetch 93 7 = some (.instanceof 10, 10, 5) := by decide +kernel
theorem f93_10 : z_fetch 93 10 = some (.getfield 6, 13, 4) := by decide +kernel
theorem f93_13 : z_fetch 93 13 = some (.istore 2, 14, 0) := by decide +kernel
theorem f93_14 : z_fetch 93 14 = some (.aload 0, 15, 0) := by decide +kernel
theorem f93_15 : z_fetch 93 15 = some (.instanceof 10, 18, 5) := by decide +kernel
theorem f93_18 : z_fetch 93 18 = some (.iload 1, 19, 0) := by decide +kernel
theorem f93_19 : z_fetch 93 19 = some (.putfield 6, 22, 4) := by decide +kernel
theorem f93_22 : z_fetch 93 22 = some (.iload 2, 23, 0) := by decide +kernel
theorem f93_23 : z_fetch 93 23 = some (.ireturn, 24, 0) := by decide +kernel
theorem f94_0 : z_fetch 94 0 = some (.aload 0, 1, 0) := by decide +kernel
theorem f94_1 : z_fetch 94 1 = some (.iload 1, 2, 0) := by decide +kernel
theorem f94_2 : z_fetch 94 2 = some (.invokevirtual 103, 5, 0) := by decide +kernel
theorem f94_5 : z_fetch 94 5 = some (.astore 5, 7, 0) := by decide +kernel
theorem f94_7 : z_fetch 94 7 = some (.aload 5, 9, 0) := by decide +kernel
theorem f94_9 : z_fetch 94 9 = some (.ifnull 0, 12, 42) := by decide +kernel
theorem f94_12 : z_fetch 94 12 = some (.aload 0, 13, 0) := by decide +kernel
theorem f94_13 : z_fetch 94 13 = some (.invokevirtual 99, 16, 0) := by decide +kernel
theorem f94_16 : z_fetch 94 16 = some (.ifCond .eq 0, 19, 42) := by decide +kernel
theorem f94_19 : z_fetch 94 19 = some (.iload 2, 20, 0) := by decide +kernel
theorem f94_20 : z_fetch 94 20 = some (.iconst 1, 21, 0) := by decide +kernel
theorem f94_21 : z_fetch 94 21 = some (.if_icmp .lt 0, 24, 42) := by decide +kernel
theorem f94_24 : z_fetch 94 24 = some (.iload 2, 25, 0) := by decide +kernel
theorem f94_25 : z_fetch 94 25 = some (.iconst 10, 27, 0) := by decide +kernel
theorem f94_27 : z_fetch 94 27 = some (.if_icmp .gt 0, 30, 42) := by decide +kernel
theorem f94_30 : z_fetch 94 30 = some (.iload 3, 31, 0) := by decide +kernel
theorem f94_31 : z_fetch 94 31 = some (.iconst 1, 32, 0) := by decide +kernel
theorem f94_32 : z_fetch 94 32 = some (.if_icmp .lt 0, 35, 42) := by decide +kernel
theorem f94_35 : z_fetch 94 35 = some (.iload 3, 36, 0) := by decide +kernel
theorem f94_36 : z_fetch 94 36 = some (.iconst 400, 39, 0) := by decide +kernel
theorem f94_39 : z_fetch 94 39 = some (.if_icmp .le 0, 42, 44) := by decide +kernel
theorem f94_42 : z_fetch 94 42 = some (.iconst (-1), 43, 0) := by decide +kernel
theorem f94_43 : z_fetch 94 43 = some (.ireturn, 44, 0) := by decide +kernel
theorem f94_44 : z_fetch 94 44 = some (.iload 4, 46, 0) := by decide +kernel
theorem f94_46 : z_fetch 94 46 = some (.ifCond .lt 0, 49, 55) := by decide +kernel
theorem f94_49 : z_fetch 94 49 = some (.iload 4, 51, 0) := by decide +kernel
theorem f94_51 : z_fetch 94 51 = some (.iconst 1, 52, 0) := by decide +kernel
theorem f94_52 : z_fetch 94 52 = some (.if_icmp .le 0, 55, 57) := by decide +kernel
theorem f94_55 : z_fetch 94 55 = some (.iconst (-1), 56, 0) := by decide +kernel
theorem f94_56 : z_fetch 94 56 = some (.ireturn, 57, 0) := by decide +kernel
theorem f94_57 : z_fetch 94 57 = some (.aload 0, 58, 0) := by decide +kernel
theorem f94_58 : z_fetch 94 58 = some (.instanceof 10, 61, 5) := by decide +kernel
theorem f94_61 : z_fetch 94 61 = some (.getfield 6, 64, 4) := by decide +kernel
theorem f94_64 : z_fetch 94 64 = some (.istore 6, 66, 0) := by decide +kernel
theorem f94_66 : z_fetch 94 66 = some (.iconst 0, 67, 0) := by decide +kernel
theorem f94_67 : z_fetch 94 67 = some (.istore 7, 69, 0) := by decide +kernel
theorem f94_69 : z_fetch 94 69 = some (.iconst 0, 70, 0) := by decide +kernel
theorem f94_70 : z_fetch 94 70 = some (.istore 8, 72, 0) := by decide +kernel
theorem f94_72 : z_fetch 94 72 = some (.iconst 0, 73, 0) := by decide +kernel
theorem f94_73 : z_fetch 94 73 = some (.istore 9, 75, 0) := by decide +kernel
theorem f94_75 : z_fetch 94 75 = some (.iload 9, 77, 0) := by decide +kernel
theorem f94_77 : z_fetch 94 77 = some (.iload 2, 78, 0) := by decide +kernel
theorem f94_78 : z_fetch 94 78 = some (.if_icmp .ge 0, 81, 167) := by decide +kernel
theorem f94_81 : z_fetch 94 81 = some (.aload 0, 82, 0) := by decide +kernel
theorem f94_82 : z_fetch 94 82 = some (.instanceof 10, 85, 6) := by decide +kernel
theorem f94_85 : z_fetch 94 85 = some (.aload 0, 86, 0) := by decide +kernel
theorem f94_86 : z_fetch 94 86 = some (.instanceof 10, 89, 5) := by decide +kernel
theorem f94_89 : z_fetch 94 89 = some (.invokevirtual 36, 92, 0) := by decide +kernel
theorem f94_92 : z_fetch 94 92 = some (.aload 0, 93, 0) := by decide +kernel
theorem f94_93 : z_fetch 94 93 = some (.instanceof 10, 96, 6) := by decide +kernel
theorem f94_96 : z_fetch 94 96 = some (.iload 6, 98, 0) := by decide +kernel
theorem f94_98 : z_fetch 94 98 = some (.putfield 6, 101, 4) := by decide +kernel
theorem f94_101 : z_fetch 94 101 = some (.aload 0, 102, 0) := by decide +kernel
theorem f94_102 : z_fetch 94 102 = some (.instanceof 10, 105, 10) := by decide +kernel
theorem f94_105 : z_fetch 94 105 = some (.aload 0, 106, 0) := by decide +kernel
theorem f94_106 : z_fetch 94 106 = some (.instanceof 10, 109, 6) := by decide +kernel
theorem f94_109 : z_fetch 94 109 = some (.aload 5, 111, 0) := by decide +kernel
theorem f94_111 : z_fetch 94 111 = some (.iload 3, 112, 0) := by decide +kernel
theorem f94_112 : z_fetch 94 112 = some (.iconst 1, 113, 0) := by decide +kernel
theorem f94_113 : z_fetch 94 113 = some (.invokevirtual 14, 116, 0) := by decide +kernel
theorem f94_116 : z_fetch 94 116 = some (.pop, 117, 0) := by decide +kernel
theorem f94_117 : z_fetch 94 117 = some (.aload 0, 118, 0) := by decide +kernel
theorem f94_118 : z_fetch 94 118 = some (.instanceof 10, 121, 6) := by decide +kernel
theorem f94_121 : z_fetch 94 121 = some (.getfield 6, 124, 4) := by decide +kernel
theorem f94_124 : z_fetch 94 124 = some (.istore 6, 126, 0) := by decide +kernel
theorem f94_126 : z_fetch 94 126 = some (.iload 7, 128, 0) := by decide +kernel
theorem f94_128 : z_fetch 94 128 = some (.aload 0, 129, 0) := by decide +kernel
theorem f94_129 : z_fetch 94 129 = some (.instanceof 10, 132, 6) := by decide +kernel
theorem f94_132 : z_fetch 94 132 = some (.getfield 6, 135, 2) := by decide +kernel
theorem f94_135 : z_fetch 94 135 = some (.aload 0, 136, 0) := by decide +kernel
theorem f94_136 : z_fetch 94 136 = some (.instanceof 10, 139, 5) := by decide +kernel
theorem f94_139 : z_fetch 94 139 = some (.getfield 6, 142, 2) := by decide +kernel
theorem f94_142 : z_fetch 94 142 = some (.isub, 143, 0) := by decide +kernel
theorem f94_143 : z_fetch 94 143 = some (.iadd, 144, 0) := by decide +kernel
theorem f94_144 : z_fetch 94 144 = some (.istore 7, 146, 0) := by decide +kernel
theorem f94_146 : z_fetch 94 146 = some (.iload 8, 148, 0) := by decide +kernel
theorem f94_148 : z_fetch 94 148 = some (.aload 0, 149, 0) := by decide +kernel
theorem f94_149 : z_fetch 94 149 = some (.instanceof 10, 152, 6) := by decide +kernel
theorem f94_152 : z_fetch 94 152 = some (.invokevirtual 38, 155, 0) := by decide +kernel
theorem f94_155 : z_fetch 94 155 = some (.invokestatic 205, 158, 0) := by decide +kernel
theorem f94_158 : z_fetch 94 158 = some (.iadd, 159, 0) := by decide +kernel
theorem f94_159 : z_fetch 94 159 = some (.istore 8, 161, 0) := by decide +kernel
theorem f94_161 : z_fetch 94 161 = some (.iinc 9 1, 164, 0) := by decide +kernel
theorem f94_164 : z_fetch 94 164 = some (.goto 0, 167, 75) := by decide +kernel
theorem f94_167 : z_fetch 94 167 = some (.iload 4, 169, 0) := by decide +kernel
theorem f94_169 : z_fetch 94 169 = some (.ifCond .ne 0, 172, 177) := by decide +kernel
theorem f94_172 : z_fetch 94 172 = some (.iload 7, 174, 0) := by decide +kernel
theorem f94_174 : z_fetch 94 174 = some (.goto 0, 177, 179) := by decide +kernel
theorem f94_177 : z_fetch 94 177 = some (.iload 8, 179, 0) := by decide +kernel
theorem f94_179 : z_fetch 94 179 = some (.ireturn, 180, 0) := by decide +kernel
theorem f95_0 : z_fetch 95 0 = some (.iload 1, 1, 0) := by decide +kernel
theorem f95_1 : z_fetch 95 1 = some (.tableswitch 0 0 11 #[64, 75, 86, 97, 105, 113, 118, 126, 137, 145, 153, 161], 64, 172) := by decide +kernel
theorem f95_64 : z_fetch 95 64 = some (.aload 0, 65, 0) := by decide +kernel
theorem f95_65 : z_fetch 95 65 = some (.instanceof 10, 68, 5) := by decide +kernel
theorem f95_68 : z_fetch 95 68 = some (.instanceof 6, 71, 0) := by decide +kernel
theorem f95_71 : z_fetch 95 71 = some (.getfield 3, 74, 0) := by decide +kernel
theorem f95_74 : z_fetch 95 74 = some (.ireturn, 75, 0) := by decide +kernel
theorem f95_75 : z_fetch 95 75 = some (.aload 0, 76, 0) := by decide +kernel
theorem f95_76 : z_fetch 95 76 = some (.instanceof 10, 79, 5) := by decide +kernel
theorem f95_79 : z_fetch 95 79 = some (.instanceof 6, 82, 0) := by decide +kernel
theorem f95_82 : z_fetch 95 82 = some (.getfield 3, 85, 2) := by decide +kernel
theorem f95_85 : z_fetch 95 85 = some (.ireturn, 86, 0) := by decide +kernel
theorem f95_86 : z_fetch 95 86 = some (.aload 0, 87, 0) := by decide +kernel
theorem f95_87 : z_fetch 95 87 = some (.instanceof 10, 90, 5) := by decide +kernel
theorem f95_90 : z_fetch 95 90 = some (.instanceof 6, 93, 0) := by decide +kernel
theorem f95_93 : z_fetch 95 93 = some (.getfield 3, 96, 3) := by decide +kernel
theorem f95_96 : z_fetch 95 96 = some (.ireturn, 97, 0) := by decide +kernel
theorem f95_97 : z_fetch 95 97 = some (.aload 0, 98, 0) := by decide +kernel
theorem f95_98 : z_fetch 95 98 = some (.instanceof 10, 101, 5) := by decide +kernel
theorem f95_101 : z_fetch 95 101 = some (.getfield 6, 104, 1) := by decide +kernel
theorem f95_104 : z_fetch 95 104 = some (.ireturn, 105, 0) := by decide +kernel
theorem f95_105 : z_fetch 95 105 = some (.aload 0, 106, 0) := by decide +kernel
theorem f95_106 : z_fetch 95 106 = some (.instanceof 10, 109, 5) := by decide +kernel
theorem f95_109 : z_fetch 95 109 = some (.getfield 6, 112, 2) := by decide +kernel
theorem f95_112 : z_fetch 95 112 = some (.ireturn, 113, 0) := by decide +kernel
theorem f95_113 : z_fetch 95 113 = some (.aload 0, 114, 0) := by decide +kernel
theorem f95_114 : z_fetch 95 114 = some (.getfield 10, 117, 4) := by decide +kernel
theorem f95_117 : z_fetch 95 117 = some (.ireturn, 118, 0) := by decide +kernel
theorem f95_118 : z_fetch 95 118 = some (.aload 0, 119, 0) := by decide +kernel
theorem f95_119 : z_fetch 95 119 = some (.instanceof 10, 122, 5) := by decide +kernel
theorem f95_122 : z_fetch 95 122 = some (.getfield 6, 125, 3) := by decide +kernel
theorem f95_125 : z_fetch 95 125 = some (.ireturn, 126, 0) := by decide +kernel
theorem f95_126 : z_fetch 95 126 = some (.aload 0, 127, 0) := by decide +kernel
theorem f95_127 : z_fetch 95 127 = some (.instanceof 10, 130, 5) := by decide +kernel
theorem f95_130 : z_fetch 95 130 = some (.instanceof 6, 133, 0) := by decide +kernel
theorem f95_133 : z_fetch 95 133 = some (.getfield 3, 136, 1) := by decide +kernel
theorem f95_136 : z_fetch 95 136 = some (.ireturn, 137, 0) := by decide +kernel
theorem f95_137 : z_fetch 95 137 = some (.aload 0, 138, 0) := by decide +kernel
theorem f95_138 : z_fetch 95 138 = some (.instanceof 10, 141, 5) := by decide +kernel
theorem f95_141 : z_fetch 95 141 = some (.invokevirtual 43, 144, 0) := by decide +kernel
theorem f95_144 : z_fetch 95 144 = some (.ireturn, 145, 0) := by decide +kernel
theorem f95_145 : z_fetch 95 145 = some (.aload 0, 146, 0) := by decide +kernel
theorem f95_146 : z_fetch 95 146 = some (.instanceof 10, 149, 5) := by decide +kernel
theorem f95_149 : z_fetch 95 149 = some (.getfield 6, 152, 4) := by decide +kernel
theorem f95_152 : z_fetch 95 152 = some (.ireturn, 153, 0) := by decide +kernel
theorem f95_153 : z_fetch 95 153 = some (.aload 0, 154, 0) := by decide +kernel
theorem f95_154 : z_fetch 95 154 = some (.instanceof 10, 157, 0) := by decide +kernel
theorem f95_157 : z_fetch 95 157 = some (.getfield 7, 160, 1) := by decide +kernel
theorem f95_160 : z_fetch 95 160 = some (.ireturn, 161, 0) := by decide +kernel
theorem f95_161 : z_fetch 95 161 = some (.aload 0, 162, 0) := by decide +kernel
theorem f95_162 : z_fetch 95 162 = some (.instanceof 10, 165, 5) := by decide +kernel
theorem f95_165 : z_fetch 95 165 = some (.invokevirtual 38, 168, 0) := by decide +kernel
theorem f95_168 : z_fetch 95 168 = some (.invokestatic 205, 171, 0) := by decide +kernel
theorem f95_171 : z_fetch 95 171 = some (.ireturn, 172, 0) := by decide +kernel
theorem f95_172 : z_fetch 95 172 = some (.iconst (-1), 173, 0) := by decide +kernel
theorem f95_173 : z_fetch 95 173 = some (.ireturn, 174, 0) := by decide +kernel
theorem f96_0 : z_fetch 96 0 = some (.iload 1, 1, 0) := by decide +kernel
theorem f96_1 : z_fetch 96 1 = some (.ifCond .lt 0, 4, 9) := by decide +kernel
theorem f96_4 : z_fetch 96 4 = some (.iload 1, 5, 0) := by decide +kernel
theorem f96_5 : z_fetch 96 5 = some (.iconst 4, 6, 0) := by decide +kernel
theorem f96_6 : z_fetch 96 6 = some (.if_icmp .lt 0, 9, 11) := by decide +kernel
theorem f96_9 : z_fetch 96 9 = some (.iconst (-1), 10, 0) := by decide +kernel
theorem f96_10 : z_fetch 96 10 = some (.ireturn, 11, 0) := by decide +kernel
theorem f96_11 : z_fetch 96 11 = some (.aload 0, 12, 0) := by decide +kernel
theorem f96_12 : z_fetch 96 12 = some (.instanceof 10, 15, 7) := by decide +kernel
theorem f96_15 : z_fetch 96 15 = some (.iload 1, 16, 0) := by decide +kernel
theorem f96_16 : z_fetch 96 16 = some (.aaload, 17, 0) := by decide +kernel
theorem f96_17 : z_fetch 96 17 = some (.ifnonnull 0, 20, 40) := by decide +kernel
theorem f96_20 : z_fetch 96 20 = some (.aload 0, 21, 0) := by decide +kernel
theorem f96_21 : z_fetch 96 21 = some (.instanceof 10, 24, 7) := by decide +kernel
theorem f96_24 : z_fetch 96 24 = some (.iload 1, 25, 0) := by decide +kernel
theorem f96_25 : z_fetch 96 25 = some (.new 6, 28, 0) := by decide +kernel
theorem f96_28 : z_fetch 96 28 = some (.dup, 29, 0) := by decide +kernel
theorem f96_29 : z_fetch 96 29 = some (.aload 0, 30, 0) := by decide +kernel
theorem f96_30 : z_fetch 96 30 = some (.instanceof 10, 33, 5) := by decide +kernel
theorem f96_33 : z_fetch 96 33 = some (.instanceof 6, 36, 0) := by decide +kernel
theorem f96_36 : z_fetch 96 36 = some (.invokespecial 34, 39, 0) := by decide +kernel
theorem f96_39 : z_fetch 96 39 = some (.aastore, 40, 0) := by decide +kernel
theorem f96_40 : z_fetch 96 40 = some (.aload 0, 41, 0) := by decide +kernel
theorem f96_41 : z_fetch 96 41 = some (.instanceof 10, 44, 7) := by decide +kernel
theorem f96_44 : z_fetch 96 44 = some (.iload 1, 45, 0) := by decide +kernel
theorem f96_45 : z_fetch 96 45 = some (.aaload, 46, 0) := by decide +kernel
theorem f96_46 : z_fetch 96 46 = some (.aload 0, 47, 0) := by decide +kernel
theorem f96_47 : z_fetch 96 47 = some (.instanceof 10, 50, 5) := by decide +kernel
theorem f96_50 : z_fetch 96 50 = some (.invokevirtual 36, 53, 0) := by decide +kernel
theorem f96_53 : z_fetch 96 53 = some (.aload 0, 54, 0) := by decide +kernel
theorem f96_54 : z_fetch 96 54 = some (.instanceof 10, 57, 5) := by decide +kernel
theorem f96_57 : z_fetch 96 57 = some (.getfield 6, 60, 1) := by decide +kernel
theorem f96_60 : z_fetch 96 60 = some (.ireturn, 61, 0) := by decide +kernel
theorem f97_0 : z_fetch 97 0 = some (.iload 1, 1, 0) := by decide +kernel
theorem f97_1 : z_fetch 97 1 = some (.ifCond .lt 0, 4, 18) := by decide +kernel
theorem f97_4 : z_fetch 97 4 = some (.iload 1, 5, 0) := by decide +kernel
theorem f97_5 : z_fetch 97 5 = some (.iconst 4, 6, 0) := by decide +kernel
theorem f97_6 : z_fetch 97 6 = some (.if_icmp .ge 0, 9, 18) := by decide +kernel
theorem f97_9 : z_fetch 97 9 = some (.aload 0, 10, 0) := by decide +kernel
theorem f97_10 : z_fetch 97 10 = some (.instanceof 10, 13, 7) := by decide +kernel
theorem f97_13 : z_fetch 97 13 = some (.iload 1, 14, 0) := by decide +kernel
theorem f97_14 : z_fetch 97 14 = some (.aaload, 15, 0) := by decide +kernel
theorem f97_15 : z_fetch 97 15 = some (.ifnonnull 0, 18, 20) := by decide +kernel
theorem f97_18 : z_fetch 97 18 = some (.iconst (-1), 19, 0) := by decide +kernel
theorem f97_19 : z_fetch 97 19 = some (.ireturn, 20, 0) := by decide +kernel
theorem f97_20 : z_fetch 97 20 = some (.aload 0, 21, 0) := by decide +kernel
theorem f97_21 : z_fetch 97 21 = some (.instanceof 10, 24, 5) := by decide +kernel
theorem f97_24 : z_fetch 97 24 = some (.aload 0, 25, 0) := by decide +kernel
theorem f97_25 : z_fetch 97 25 = some (.instanceof 10, 28, 7) := by decide +kernel
theorem f97_28 : z_fetch 97 28 = some (.iload 1, 29, 0) := by decide +kernel
theorem f97_29 : z_fetch 97 29 = some (.aaload, 30, 0) := by decide +kernel
theorem f97_30 : z_fetch 97 30 = some (.invokevirtual 36, 33, 0) := by decide +kernel
theorem f97_33 : z_fetch 97 33 = some (.aload 0, 34, 0) := by decide +kernel
theorem f97_34 : z_fetch 97 34 = some (.instanceof 10, 37, 5) := by decide +kernel
theorem f97_37 : z_fetch 97 37 = some (.getfield 6, 40, 1) := by decide +kernel
theorem f97_40 : z_fetch 97 40 = some (.ireturn, 41, 0) := by decide +kernel
theorem f98_0 : z_fetch 98 0 = some (.iload 0, 1, 0) := by decide +kernel
theorem f98_1 : z_fetch 98 1 = some (.iload 1, 2, 0) := by decide +kernel
theorem f98_2 : z_fetch 98 2 = some (.iushr, 3, 0) := by decide +kernel
theorem f98_3 : z_fetch 98 3 = some (.iconst 1, 4, 0) := by decide +kernel
theorem f98_4 : z_fetch 98 4 = some (.iand, 5, 0) := by decide +kernel
theorem f98_5 : z_fetch 98 5 = some (.ifCond .eq 0, 8, 12) := by decide +kernel
theorem f98_8 : z_fetch 98 8 = some (.iconst 1, 9, 0) := by decide +kernel
theorem f98_9 : z_fetch 98 9 = some (.goto 0, 12, 13) := by decide +kernel
theorem f98_12 : z_fetch 98 12 = some (.iconst 0, 13, 0) := by decide +kernel
theorem f98_13 : z_fetch 98 13 = some (.ireturn, 14, 1) := by decide +kernel
theorem f99_0 : z_fetch 99 0 = some (.aload 0, 1, 0) := by decide +kernel
theorem f99_1 : z_fetch 99 1 = some (.instanceof 10, 4, 5) := by decide +kernel
theorem f99_4 : z_fetch 99 4 = some (.instanceof 6, 7, 0) := by decide +kernel
theorem f99_7 : z_fetch 99 7 = some (.getfield 3, 10, 0) := by decide +kernel
theorem f99_10 : z_fetch 99 10 = some (.ifCond .le 0, 13, 17) := by decide +kernel
theorem f99_13 : z_fetch 99 13 = some (.iconst 1, 14, 0) := by decide +kernel
theorem f99_14 : z_fetch 99 14 = some (.goto 0, 17, 18) := by decide +kernel
theorem f99_17 : z_fetch 99 17 = some (.iconst 0, 18, 0) := by decide +kernel
theorem f99_18 : z_fetch 99 18 = some (.ireturn, 19, 1) := by decide +kernel
theorem f100_0 : z_fetch 100 0 = some (.iload 1, 1, 0) := by decide +kernel
theorem f100_1 : z_fetch 100 1 = some (.ifCond .lt 0, 4, 22) := by decide +kernel
theorem f100_4 : z_fetch 100 4 = some (.iload 1, 5, 0) := by decide +kernel
theorem f100_5 : z_fetch 100 5 = some (.aload 0, 6, 0) := by decide +kernel
theorem f100_6 : z_fetch 100 6 = some (.instanceof 10, 9, 5) := by decide +kernel
theorem f100_9 : z_fetch 100 9 = some (.instanceof 6, 12, 0) := by decide +kernel
theorem f100_12 : z_fetch 100 12 = some (.getfield 3, 15, 0) := by decide +kernel
theorem f100_15 : z_fetch 100 15 = some (.if_icmp .ge 0, 18, 22) := by decide +kernel
theorem f100_18 : z_fetch 100 18 = some (.iconst 1, 19, 0) := by decide +kernel
theorem f100_19 : z_fetch 100 19 = some (.goto 0, 22, 23) := by decide +kernel
theorem f100_22 : z_fetch 100 22 = some (.iconst 0, 23, 0) := by decide +kernel
theorem f100_23 : z_fetch 100 23 = some (.ireturn, 24, 1) := by decide +kernel
theorem f101_0 : z_fetch 101 0 = some (.iload 1, 1, 0) := by decide +kernel
theorem f101_1 : z_fetch 101 1 = some (.ifCond .lt 0, 4, 22) := by decide +kernel
theorem f101_4 : z_fetch 101 4 = some (.iload 1, 5, 0) := by decide +kernel
theorem f101_5 : z_fetch 101 5 = some (.aload 0, 6, 0) := by decide +kernel
theorem f101_6 : z_fetch 101 6 = some (.instanceof 10, 9, 5) := by decide +kernel
theorem f101_9 : z_fetch 101 9 = some (.instanceof 6, 12, 0) := by decide +kernel
theorem f101_12 : z_fetch 101 12 = some (.getfield 3, 15, 2) := by decide +kernel
theorem f101_15 : z_fetch 101 15 = some (.if_icmp .ge 0, 18, 22) := by decide +kernel
theorem f101_18 : z_fetch 101 18 = some (.iconst 1, 19, 0) := by decide +kernel
theorem f101_19 : z_fetch 101 19 = some (.goto 0, 22, 23) := by decide +kernel
theorem f101_22 : z_fetch 101 22 = some (.iconst 0, 23, 0) := by decide +kernel
theorem f101_23 : z_fetch 101 23 = some (.ireturn, 24, 1) := by decide +kernel
theorem f102_0 : z_fetch 102 0 = some (.iload 1, 1, 0) := by decide +kernel
theorem f102_1 : z_fetch 102 1 = some (.ifCond .lt 0, 4, 22) := by decide +kernel
theorem f102_4 : z_fetch 102 4 = some (.iload 1, 5, 0) := by decide +kernel
theorem f102_5 : z_fetch 102 5 = some (.aload 0, 6, 0) := by decide +kernel
theorem f102_6 : z_fetch 102 6 = some (.instanceof 10, 9, 5) := by decide +kernel
theorem f102_9 : z_fetch 102 9 = some (.instanceof 6, 12, 0) := by decide +kernel
theorem f102_12 : z_fetch 102 12 = some (.getfield 3, 15, 3) := by decide +kernel
theorem f102_15 : z_fetch 102 15 = some (.if_icmp .ge 0, 18, 22) := by decide +kernel
theorem f102_18 : z_fetch 102 18 = some (.iconst 1, 19, 0) := by decide +kernel
theorem f102_19 : z_fetch 102 19 = some (.goto 0, 22, 23) := by decide +kernel
theorem f102_22 : z_fetch 102 22 = some (.iconst 0, 23, 0) := by decide +kernel
theorem f102_23 : z_fetch 102 23 = some (.ireturn, 24, 1) := by decide +kernel
theorem f103_0 : z_fetch 103 0 = some (.iload 1, 1, 0) := by decide +kernel
theorem f103_1 : z_fetch 103 1 = some (.ifCond .lt 0, 4, 21) := by decide +kernel
theorem f103_4 : z_fetch 103 4 = some (.iload 1, 5, 0) := by decide +kernel
theorem f103_5 : z_fetch 103 5 = some (.aload 0, 6, 0) := by decide +kernel
theorem f103_6 : z_fetch 103 6 = some (.getfield 10, 9, 4) := by decide +kernel
theorem f103_9 : z_fetch 103 9 = some (.if_icmp .ge 0, 12, 21) := by decide +kernel
theorem f103_12 : z_fetch 103 12 = some (.aload 0, 13, 0) := by decide +kernel
theorem f103_13 : z_fetch 103 13 = some (.instanceof 10, 16, 3) := by decide +kernel
theorem f103_16 : z_fetch 103 16 = some (.iload 1, 17, 0) := by decide +kernel
theorem f103_17 : z_fetch 103 17 = some (.aaload, 18, 0) := by decide +kernel
theorem f103_18 : z_fetch 103 18 = some (.goto 0, 21, 22) := by decide +kernel
theorem f103_21 : z_fetch 103 21 = some (.aconst_null, 22, 0) := by decide +kernel
theorem f103_22 : z_fetch 103 22 = some (.areturn, 23, 0) := by decide +kernel
theorem f104_0 : z_fetch 104 0 = some (.aload 0, 1, 0) := by decide +kernel
theorem f104_1 : z_fetch 104 1 = some (.aload 0, 2, 0) := by decide +kernel
theorem f104_2 : z_fetch 104 2 = some (.instanceof 10, 5, 5) := by decide +kernel
theorem f104_5 : z_fetch 104 5 = some (.getfield 6, 8, 3) := by decide +kernel
theorem f104_8 : z_fetch 104 8 = some (.invokevirtual 103, 11, 0) := by decide +kernel
theorem f104_11 : z_fetch 104 11 = some (.astore 1, 12, 0) := by decide +kernel
theorem f104_12 : z_fetch 104 12 = some (.aload 1, 13, 0) := by decide +kernel
theorem f104_13 : z_fetch 104 13 = some (.ifnull 0, 16, 32) := by decide +kernel
theorem f104_16 : z_fetch 104 16 = some (.aload 1, 17, 0) := by decide +kernel
theorem f104_17 : z_fetch 104 17 = some (.iconst 2, 18, 0) := by decide +kernel
theorem f104_18 : z_fetch 104 18 = some (.aload 0, 19, 0) := by decide +kernel
theorem f104_19 : z_fetch 104 19 = some (.instanceof 10, 22, 9) := by decide +kernel
theorem f104_22 : z_fetch 104 22 = some (.invokevirtual 22, 25, 0) := by decide +kernel
theorem f104_25 : z_fetch 104 25 = some (.ifCond .eq 0, 28, 32) := by decide +kernel
theorem f104_28 : z_fetch 104 28 = some (.iconst 1, 29, 0) := by decide +kernel
theorem f104_29 : z_fetch 104 29 = some (.goto 0, 32, 33) := by decide +kernel
theorem f104_32 : z_fetch 104 32 = some (.iconst 0, 33, 0) := by decide +kernel
theorem f104_33 : z_fetch 104 33 = some (.ireturn, 34, 1) := by decide +kernel
theorem f105_0 : z_fetch 105 0 = some (.aload 0, 1, 0) := by decide +kernel
theorem f105_1 : z_fetch 105 1 = some (.instanceof 10, 4, 11) := by decide +kernel
theorem f105_4 : z_fetch 105 4 = some (.aload 0, 5, 0) := by decide +kernel
theorem f105_5 : z_fetch 105 5 = some (.aload 0, 6, 0) := by decide +kernel
theorem f105_6 : z_fetch 105 6 = some (.instanceof 10, 9, 5) := by decide +kernel
theorem f105_9 : z_fetch 105 9 = some (.getfield 6, 12, 3) := by decide +kernel
theorem f105_12 : z_fetch 105 12 = some (.invokevirtual 103, 15, 0) := by decide +kernel
theorem f105_15 : z_fetch 105 15 = some (.aload 0, 16, 0) := by decide +kernel
theorem f105_16 : z_fetch 105 16 = some (.instanceof 10, 19, 5) := by decide +kernel
theorem f105_19 : z_fetch 105 19 = some (.instanceof 6, 22, 5) := by decide +kernel
theorem f105_22 : z_fetch 105 22 = some (.iload 1, 23, 0) := by decide +kernel
theorem f105_23 : z_fetch 105 23 = some (.aaload, 24, 0) := by decide +kernel
theorem f105_24 : z_fetch 105 24 = some (.iload 1, 25, 0) := by decide +kernel
theorem f105_25 : z_fetch 105 25 = some (.aload 0, 26, 0) := by decide +kernel
theorem f105_26 : z_fetch 105 26 = some (.instanceof 10, 29, 5) := by decide +kernel
theorem f105_29 : z_fetch 105 29 = some (.getfield 6, 32, 1) := by decide +kernel
theorem f105_32 : z_fetch 105 32 = some (.invokevirtual 63, 35, 0) := by decide +kernel
theorem f105_35 : z_fetch 105 35 = some (.return_, 36, 0) := by decide +kernel
theorem f106_0 : z_fetch 106 0 = some (.iconst 0, 1, 0) := by decide +kernel
theorem f106_1 : z_fetch 106 1 = some (.istore 3, 2, 0) := by decide +kernel
theorem f106_2 : z_fetch 106 2 = some (.iload 3, 3, 0) := by decide +kernel
theorem f106_3 : z_fetch 106 3 = some (.iload 2, 4, 0) := by decide +kernel
theorem f106_4 : z_fetch 106 4 = some (.if_icmp .ge 0, 7, 35) := by decide +kernel
theorem f106_7 : z_fetch 106 7 = some (.iload 3, 8, 0) := by decide +kernel
theorem f106_8 : z_fetch 106 8 = some (.aload 0, 9, 0) := by decide +kernel
theorem f106_9 : z_fetch 106 9 = some (.instanceof 10, 12, 13) := by decide +kernel
theorem f106_12 : z_fetch 106 12 = some (.arraylength, 13, 0) := by decide +kernel
theorem f106_13 : z_fetch 106 13 = some (.if_icmp .ge 0, 16, 35) := by decide +kernel
theorem f106_16 : z_fetch 106 16 = some (.aload 0, 17, 0) := by decide +kernel
theorem f106_17 : z_fetch 106 17 = some (.instanceof 10, 20, 13) := by decide +kernel
theorem f106_20 : z_fetch 106 20 = some (.iload 3, 21, 0) := by decide +kernel
theorem f106_21 : z_fetch 106 21 = some (.iaload, 22, 0) := by decide +kernel
theorem f106_22 : z_fetch 106 22 = some (.iload 1, 23, 0) := by decide +kernel
theorem f106_23 : z_fetch 106 23 = some (.iand, 24, 0) := by decide +kernel
theorem f106_24 : z_fetch 106 24 = some (.ifCond .ne 0, 27, 29) := by decide +kernel
theorem f106_27 : z_fetch 106 27 = some (.iconst 0, 28, 0) := by decide +kernel
theorem f106_28 : z_fetch 106 28 = some (.ireturn, 29, 1) := by decide +kernel
theorem f106_29 : z_fetch 106 29 = some (.iinc 3 1, 32, 0) := by decide +kernel
theorem f106_32 : z_fetch 106 32 = some (.goto 0, 35, 2) := by decide +kernel
theorem f106_35 : z_fetch 106 35 = some (.iconst 1, 36, 0) := by decide +kernel
theorem f106_36 : z_fetch 106 36 = some (.ireturn, 37, 1) := by decide +kernel
theorem f107_0 : z_fetch 107 0 = some (.iload 4, 2, 0) := by decide +kernel
theorem f107_2 : z_fetch 107 2 = some (.ifCond .gt 0, 5, 21) := by decide +kernel
theorem f107_5 : z_fetch 107 5 = some (.aload 0, 6, 0) := by decide +kernel
theorem f107_6 : z_fetch 107 6 = some (.iload 2, 7, 0) := by decide +kernel
theorem f107_7 : z_fetch 107 7 = some (.iaload, 8, 0) := by decide +kernel
theorem f107_8 : z_fetch 107 8 = some (.iload 1, 9, 0) := by decide +kernel
theorem f107_9 : z_fetch 107 9 = some (.invokestatic 98, 12, 0) := by decide +kernel
theorem f107_12 : z_fetch 107 12 = some (.ifCond .eq 0, 15, 19) := by decide +kernel
theorem f107_15 : z_fetch 107 15 = some (.iconst 1, 16, 0) := by decide +kernel
theorem f107_16 : z_fetch 107 16 = some (.goto 0, 19, 20) := by decide +kernel
theorem f107_19 : z_fetch 107 19 = some (.iconst 0, 20, 0) := by decide +kernel
theorem f107_20 : z_fetch 107 20 = some (.ireturn, 21, 0) := by decide +kernel
theorem f107_21 : z_fetch 107 21 = some (.iconst 0, 22, 0) := by decide +kernel
theorem f107_22 : z_fetch 107 22 = some (.istore 5, 24, 0) := by decide +kernel
theorem f107_24 : z_fetch 107 24 = some (.iconst 0, 25, 0) := by decide +kernel
theorem f107_25 : z_fetch 107 25 = some (.istore 6, 27, 0) := by decide +kernel
theorem f107_27 : z_fetch 107 27 = some (.iload 6, 29, 0) := by decide +kernel
theorem f107_29 : z_fetch 107 29 = some (.aload 0, 30, 0) := by decide +kernel
theorem f107_30 : z_fetch 107 30 = some (.arraylength, 31, 0) := by decide +kernel
theorem f107_31 : z_fetch 107 31 = some (.if_icmp .ge 0, 34, 77) := by decide +kernel
theorem f107_34 : z_fetch 107 34 = some (.aload 0, 35, 0) := by decide +kernel
theorem f107_35 : z_fetch 107 35 = some (.iload 2, 36, 0) := by decide +kernel
theorem f107_36 : z_fetch 107 36 = some (.iaload, 37, 0) := by decide +kernel
theorem f107_37 : z_fetch 107 37 = some (.iload 3, 38, 0) := by decide +kernel
theorem f107_38 : z_fetch 107 38 = some (.iconst (-1), 39, 0) := by decide +kernel
theorem f107_39 : z_fetch 107 39 = some (.ixor, 40, 0) := by decide +kernel
theorem f107_40 : z_fetch 107 40 = some (.iand, 41, 0) := by decide +kernel
theorem f107_41 : z_fetch 107 41 = some (.iload 6, 43, 0) := by decide +kernel
theorem f107_43 : z_fetch 107 43 = some (.invokestatic 98, 46, 0) := by decide +kernel
theorem f107_46 : z_fetch 107 46 = some (.ifCond .eq 0, 49, 71) := by decide +kernel
theorem f107_49 : z_fetch 107 49 = some (.iload 5, 51, 0) := by decide +kernel
theorem f107_51 : z_fetch 107 51 = some (.aload 0, 52, 0) := by decide +kernel
theorem f107_52 : z_fetch 107 52 = some (.iload 1, 53, 0) := by decide +kernel
theorem f107_53 : z_fetch 107 53 = some (.iload 6, 55, 0) := by decide +kernel
theorem f107_55 : z_fetch 107 55 = some (.iload 3, 56, 0) := by decide +kernel
theorem f107_56 : z_fetch 107 56 = some (.iconst 1, 57, 0) := by decide +kernel
theorem f107_57 : z_fetch 107 57 = some (.iload 6, 59, 0) := by decide +kernel
theorem f107_59 : z_fetch 107 59 = some (.ishl, 60, 0) := by decide +kernel
theorem f107_60 : z_fetch 107 60 = some (.ior, 61, 0) := by decide +kernel
theorem f107_61 : z_fetch 107 61 = some (.iload 4, 63, 0) := by decide +kernel
theorem f107_63 : z_fetch 107 63 = some (.iconst 1, 64, 0) := by decide +kernel
theorem f107_64 : z_fetch 107 64 = some (.isub, 65, 0) := by decide +kernel
theorem f107_65 : z_fetch 107 65 = some (.invokestatic 107, 68, 0) := by decide +kernel
theorem f107_68 : z_fetch 107 68 = some (.iadd, 69, 0) := by decide +kernel
theorem f107_69 : z_fetch 107 69 = some (.istore 5, 71, 0) := by decide +kernel
theorem f107_71 : z_fetch 107 71 = some (.iinc 6 1, 74, 0) := by decide +kernel
theorem f107_74 : z_fetch 107 74 = some (.goto 0, 77, 27) := by decide +kernel
theorem f107_77 : z_fetch 107 77 = some (.iload 5, 79, 0) := by decide +kernel
theorem f107_79 : z_fetch 107 79 = some (.ireturn, 80, 0) := by decide +kernel
theorem f108_0 : z_fetch 108 0 = some (.iconst 0, 1, 0) := by decide +kernel
theorem f108_1 : z_fetch 108 1 = some (.istore 3, 2, 0) := by decide +kernel
theorem f108_2 : z_fetch 108 2 = some (.iload 3, 3, 0) := by decide +kernel
theorem f108_3 : z_fetch 108 3 = some (.iload 1, 4, 0) := by decide +kernel
theorem f108_4 : z_fetch 108 4 = some (.if_icmp .gt 0, 7, 55) := by decide +kernel
theorem f108_7 : z_fetch 108 7 = some (.aload 0, 8, 0) := by decide +kernel
theorem f108_8 : z_fetch 108 8 = some (.instanceof 10, 11, 12) := by decide +kernel
theorem f108_11 : z_fetch 108 11 = some (.iload 3, 12, 0) := by decide +kernel
theorem f108_12 : z_fetch 108 12 = some (.baload, 13, 0) := by decide +kernel
theorem f108_13 : z_fetch 108 13 = some (.ifCond .eq 0, 16, 49) := by decide +kernel
theorem f108_16 : z_fetch 108 16 = some (.aload 0, 17, 0) := by decide +kernel
theorem f108_17 : z_fetch 108 17 = some (.instanceof 10, 20, 11) := by decide +kernel
theorem f108_20 : z_fetch 108 20 = some (.iload 1, 21, 0) := by decide +kernel
theorem f108_21 : z_fetch 108 21 = some (.iload 3, 22, 0) := by decide +kernel
theorem f108_22 : z_fetch 108 22 = some (.iconst (-1), 23, 0) := by decide +kernel
theorem f108_23 : z_fetch 108 23 = some (.ixor, 24, 0) := by decide +kernel
theorem f108_24 : z_fetch 108 24 = some (.iand, 25, 0) := by decide +kernel
theorem f108_25 : z_fetch 108 25 = some (.invokevirtual 68, 28, 0) := by decide +kernel
theorem f108_28 : z_fetch 108 28 = some (.iconst (-2), 30, 0) := by decide +kernel
theorem f108_30 : z_fetch 108 30 = some (.if_icmp .eq 0, 33, 37) := by decide +kernel
theorem f108_33 : z_fetch 108 33 = some (.iconst 1, 34, 0) := by decide +kernel
theorem f108_34 : z_fetch 108 34 = some (.goto 0, 37, 38) := by decide +kernel
theorem f108_37 : z_fetch 108 37 = some (.iconst 0, 38, 0) := by decide +kernel
theorem f108_38 : z_fetch 108 38 = some (.iload 2, 39, 0) := by decide +kernel
theorem f108_39 : z_fetch 108 39 = some (.if_icmp .eq 0, 42, 49) := by decide +kernel
theorem f108_42 : z_fetch 108 42 = some (.aload 0, 43, 0) := by decide +kernel
theorem f108_43 : z_fetch 108 43 = some (.instanceof 10, 46, 12) := by decide +kernel
theorem f108_46 : z_fetch 108 46 = some (.iload 3, 47, 0) := by decide +kernel
theorem f108_47 : z_fetch 108 47 = some (.iconst 0, 48, 0) := by decide +kernel
theorem f108_48 : z_fetch 108 48 = some (.bastore, 49, 0) := by decide +kernel
theorem f108_49 : z_fetch 108 49 = some (.iinc 3 1, 52, 0) := by decide +kernel
theorem f108_52 : z_fetch 108 52 = some (.goto 0, 55, 2) := by decide +kernel
theorem f108_55 : z_fetch 108 55 = some (.return_, 56, 0) := by decide +kernel
theorem f109_0 : z_fetch 109 0 = some (.aload 0, 1, 0) := by decide +kernel
theorem f109_1 : z_fetch 109 1 = some (.monitorenter, 4, 0) := by decide +kernel
theorem f109_4 : z_fetch 109 4 = some (.aload 0, 5, 0) := by decide +kernel
theorem f109_5 : z_fetch 109 5 = some (.iconst 400, 8, 0) := by decide +kernel
theorem f109_8 : z_fetch 109 8 = some (.newarray .byte, 10, 0) := by decide +kernel
theorem f109_10 : z_fetch 109 10 = some (.putstatic 11, 13, 0) := by decide +kernel
theorem f109_13 : z_fetch 109 13 = some (.aload 0, 14, 0) := by decide +kernel
theorem f109_14 : z_fetch 109 14 = some (.iconst 2400, 17, 0) := by decide +kernel
theorem f109_17 : z_fetch 109 17 = some (.newarray .int, 19, 0) := by decide +kernel
theorem f109_19 : z_fetch 109 19 = some (.putstatic 11, 22, 3) := by decide +kernel
theorem f109_22 : z_fetch 109 22 = some (.aload 0, 23, 0) := by decide +kernel
theorem f109_23 : z_fetch 109 23 = some (.iconst 7, 25, 0) := by decide +kernel
theorem f109_25 : z_fetch 109 25 = some (.newarray .int, 27, 0) := by decide +kernel
theorem f109_27 : z_fetch 109 27 = some (.putstatic 11, 30, 4) := by decide +kernel
theorem f109_30 : z_fetch 109 30 = some (.aload 0, 31, 0) := by decide +kernel
theorem f109_31 : z_fetch 109 31 = some (.iconst 216, 34, 0) := by decide +kernel
theorem f109_34 : z_fetch 109 34 = some (.newarray .int, 36, 0) := by decide +kernel
theorem f109_36 : z_fetch 109 36 = some (.putstatic 11, 39, 5) := by decide +kernel
theorem f109_39 : z_fetch 109 39 = some (.aload 0, 40, 0) := by decide +kernel
theorem f109_40 : z_fetch 109 40 = some (.iconst 6, 42, 0) := by decide +kernel
theorem f109_42 : z_fetch 109 42 = some (.newarray .int, 44, 0) := by decide +kernel
theorem f109_44 : z_fetch 109 44 = some (.putstatic 11, 47, 6) := by decide +kernel
theorem f109_47 : z_fetch 109 47 = some (.aload 0, 48, 0) := by decide +kernel
theorem f109_48 : z_fetch 109 48 = some (.iconst 24, 50, 0) := by decide +kernel
theorem f109_50 : z_fetch 109 50 = some (.newarray .int, 52, 0) := by decide +kernel
theorem f109_52 : z_fetch 109 52 = some (.putstatic 11, 55, 11) := by decide +kernel
theorem f109_55 : z_fetch 109 55 = some (.aload 0, 56, 0) := by decide +kernel
theorem f109_56 : z_fetch 109 56 = some (.iconst 72, 58, 0) := by decide +kernel
theorem f109_58 : z_fetch 109 58 = some (.newarray .int, 60, 0) := by decide +kernel
theorem f109_60 : z_fetch 109 60 = some (.putstatic 11, 63, 12) := by decide +kernel
theorem f109_63 : z_fetch 109 63 = some (.aload 0, 64, 0) := by decide +kernel
theorem f109_64 : z_fetch 109 64 = some (.iconst 400, 67, 0) := by decide +kernel
theorem f109_67 : z_fetch 109 67 = some (.newarray .int, 69, 0) := by decide +kernel
theorem f109_69 : z_fetch 109 69 = some (.putstatic 11, 72, 20) := by decide +kernel
theorem f109_72 : z_fetch 109 72 = some (.aload 0, 73, 0) := by decide +kernel
theorem f109_73 : z_fetch 109 73 = some (.iconst 64, 75, 0) := by decide +kernel
theorem f109_75 : z_fetch 109 75 = some (.newarray .long, 77, 0) := by decide +kernel
theorem f109_77 : z_fetch 109 77 = some (.putstatic 11, 80, 22) := by decide +kernel
theorem f109_80 : z_fetch 109 80 = some (.aload 0, 81, 0) := by decide +kernel
theorem f109_81 : z_fetch 109 81 = some (.iconst 9, 83, 0) := by decide +kernel
theorem f109_83 : z_fetch 109 83 = some (.newarray .long, 85, 0) := by decide +kernel
theorem f109_85 : z_fetch 109 85 = some (.putstatic 11, 88, 24) := by decide +kernel
theorem f109_88 : z_fetch 109 88 = some (.aload 0, 89, 0) := by decide +kernel
theorem f109_89 : z_fetch 109 89 = some (.iconst 139, 92, 0) := by decide +kernel
theorem f109_92 : z_fetch 109 92 = some (.newarray .int, 94, 0) := by decide +kernel
theorem f109_94 : z_fetch 109 94 = some (.putstatic 11, 97, 25) := by decide +kernel
theorem f109_97 : z_fetch 109 97 = some (.aload 0, 98, 0) := by decide +kernel
theorem f109_98 : z_fetch 109 98 = some (.iconst 139, 101, 0) := by decide +kernel
theorem f109_101 : z_fetch 109 101 = some (.newarray .int, 103, 0) := by decide +kernel
theorem f109_103 : z_fetch 109 103 = some (.putstatic 11, 106, 27) := by decide +kernel
theorem f109_106 : z_fetch 109 106 = some (.aload 0, 107, 0) := by decide +kernel
theorem f109_107 : z_fetch 109 107 = some (.iconst 24, 109, 0) := by decide +kernel
theorem f109_109 : z_fetch 109 109 = some (.newarray .int, 111, 0) := by decide +kernel
theorem f109_111 : z_fetch 109 111 = some (.putstatic 11, 114, 28) := by decide +kernel
theorem f109_114 : z_fetch 109 114 = some (.aload 0, 115, 0) := by decide +kernel
theorem f109_115 : z_fetch 109 115 = some (.iconst 10, 117, 0) := by decide +kernel
theorem f109_117 : z_fetch 109 117 = some (.newarray .int, 119, 0) := by decide +kernel
theorem f109_119 : z_fetch 109 119 = some (.putstatic 11, 122, 30) := by decide +kernel
theorem f109_122 : z_fetch 109 122 = some (.aload 0, 123, 0) := by decide +kernel
theorem f109_123 : z_fetch 109 123 = some (.iconst 8, 125, 0) := by decide +kernel
theorem f109_125 : z_fetch 109 125 = some (.newarray .int, 127, 0) := by decide +kernel
theorem f109_127 : z_fetch 109 127 = some (.putstatic 11, 130, 34) := by decide +kernel
theorem f109_130 : z_fetch 109 130 = some (.aload 0, 131, 0) := by decide +kernel
theorem f109_131 : z_fetch 109 131 = some (.iconst 10, 133, 0) := by decide +kernel
theorem f109_133 : z_fetch 109 133 = some (.newarray .int, 135, 0) := by decide +kernel
theorem f109_135 : z_fetch 109 135 = some (.putstatic 11, 138, 35) := by decide +kernel
theorem f109_138 : z_fetch 109 138 = some (.aload 0, 139, 0) := by decide +kernel
theorem f109_139 : z_fetch 109 139 = some (.iconst 6, 141, 0) := by decide +kernel
theorem f109_141 : z_fetch 109 141 = some (.newarray .int, 143, 0) := by decide +kernel
theorem f109_143 : z_fetch 109 143 = some (.putstatic 11, 146, 36) := by decide +kernel
theorem f109_146 : z_fetch 109 146 = some (.aload 0, 147, 0) := by decide +kernel
theorem f109_147 : z_fetch 109 147 = some (.iconst 556, 150, 0) := by decide +kernel
theorem f109_150 : z_fetch 109 150 = some (.newarray .int, 152, 0) := by decide +kernel
theorem f109_152 : z_fetch 109 152 = some (.putstatic 11, 155, 37) := by decide +kernel
theorem f109_155 : z_fetch 109 155 = some (.aload 0, 156, 0) := by decide +kernel
theorem f109_156 : z_fetch 109 156 = some (.iconst 4, 157, 0) := by decide +kernel
theorem f109_157 : z_fetch 109 157 = some (.newarray .boolean, 159, 0) := by decide +kernel
theorem f109_159 : z_fetch 109 159 = some (.putstatic 11, 162, 38) := by decide +kernel
theorem f109_162 : z_fetch 109 162 = some (.aload 0, 163, 0) := by decide +kernel
theorem f109_163 : z_fetch 109 163 = some (.instanceof 11, 166, 25) := by decide +kernel
theorem f109_166 : z_fetch 109 166 = some (.iconst 6, 168, 0) := by decide +kernel
theorem f109_168 : z_fetch 109 168 = some (.iconst (-1), 169, 0) := by decide +kernel
theorem f109_169 : z_fetch 109 169 = some (.iastore, 170, 0) := by decide +kernel
theorem f109_170 : z_fetch 109 170 = some (.return_, 171, 0) := by decide +kernel
theorem f110_0 : z_fetch 110 0 = some (.lload 0, 1, 0) := by decide +kernel
theorem f110_1 : z_fetch 110 1 = some (.lload 2, 2, 0) := by decide +kernel
theorem f110_2 : z_fetch 110 2 = some (.lcmp, 3, 0) := by decide +kernel
theorem f110_3 : z_fetch 110 3 = some (.ifCond .lt 0, 6, 17) := by decide +kernel
theorem f110_6 : z_fetch 110 6 = some (.lload 0, 7, 0) := by decide +kernel
theorem f110_7 : z_fetch 110 7 = some (.lload 4, 9, 0) := by decide +kernel
theorem f110_9 : z_fetch 110 9 = some (.lcmp, 10, 0) := by decide +kernel
theorem f110_10 : z_fetch 110 10 = some (.ifCond .gt 0, 13, 17) := by decide +kernel
theorem f110_13 : z_fetch 110 13 = some (.iconst 1, 14, 0) := by decide +kernel
theorem f110_14 : z_fetch 110 14 = some (.goto 0, 17, 18) := by decide +kernel
theorem f110_17 : z_fetch 110 17 = some (.iconst 0, 18, 0) := by decide +kernel
theorem f110_18 : z_fetch 110 18 = some (.ireturn, 19, 1) := by decide +kernel
theorem f111_0 : z_fetch 111 0 = some (.iload 0, 1, 0) := by decide +kernel
theorem f111_1 : z_fetch 111 1 = some (.iload 1, 2, 0) := by decide +kernel
theorem f111_2 : z_fetch 111 2 = some (.ishr, 3, 0) := by decide +kernel
theorem f111_3 : z_fetch 111 3 = some (.iconst 1, 4, 0) := by decide +kernel
theorem f111_4 : z_fetch 111 4 = some (.iand, 5, 0) := by decide +kernel
theorem f111_5 : z_fetch 111 5 = some (.iconst 1, 6, 0) := by decide +kernel
theorem f111_6 : z_fetch 111 6 = some (.if_icmp .ne 0, 9, 13) := by decide +kernel
theorem f111_9 : z_fetch 111 9 = some (.iconst 1, 10, 0) := by decide +kernel
theorem f111_10 : z_fetch 111 10 = some (.goto 0, 13, 14) := by decide +kernel
theorem f111_13 : z_fetch 111 13 = some (.iconst 0, 14, 0) := by decide +kernel
theorem f111_14 : z_fetch 111 14 = some (.ireturn, 15, 1) := by decide +kernel
theorem f112_0 : z_fetch 112 0 = some (.iconst 0, 1, 0) := by decide +kernel
theorem f112_1 : z_fetch 112 1 = some (.istore 1, 2, 0) := by decide +kernel
theorem f112_2 : z_fetch 112 2 = some (.iload 0, 3, 0) := by decide +kernel
theorem f112_3 : z_fetch 112 3 = some (.istore 2, 4, 0) := by decide +kernel
theorem f112_4 : z_fetch 112 4 = some (.iload 2, 5, 0) := by decide +kernel
theorem f112_5 : z_fetch 112 5 = some (.ifCond .eq 0, 8, 20) := by decide +kernel
theorem f112_8 : z_fetch 112 8 = some (.iinc 1 1, 11, 0) := by decide +kernel
theorem f112_11 : z_fetch 112 11 = some (.iload 2, 12, 0) := by decide +kernel
theorem f112_12 : z_fetch 112 12 = some (.iload 2, 13, 0) := by decide +kernel
theorem f112_13 : z_fetch 112 13 = some (.iconst 1, 14, 0) := by decide +kernel
theorem f112_14 : z_fetch 112 14 = some (.isub, 15, 0) := by decide +kernel
theorem f112_15 : z_fetch 112 15 = some (.iand, 16, 0) := by decide +kernel
theorem f112_16 : z_fetch 112 16 = some (.istore 2, 17, 0) := by decide +kernel
theorem f112_17 : z_fetch 112 17 = some (.goto 0, 20, 4) := by decide +kernel
theorem f112_20 : z_fetch 112 20 = some (.iload 1, 21, 0) := by decide +kernel
theorem f112_21 : z_fetch 112 21 = some (.ireturn, 22, 0) := by decide +kernel
theorem f113_0 : z_fetch 113 0 = some (.iconst 24, 2, 0) := by decide +kernel
theorem f113_2 : z_fetch 113 2 = some (.istore 2, 3, 0) := by decide +kernel
theorem f113_3 : z_fetch 113 3 = some (.iload 2, 4, 0) := by decide +kernel
theorem f113_4 : z_fetch 113 4 = some (.ifCond .lt 0, 7, 36) := by decide +kernel
theorem f113_7 : z_fetch 113 7 = some (.aload 0, 8, 0) := by decide +kernel
theorem f113_8 : z_fetch 113 8 = some (.instanceof 11, 11, 0) := by decide +kernel
theorem f113_11 : z_fetch 113 11 = some (.aload 0, 12, 0) := by decide +kernel
theorem f113_12 : z_fetch 113 12 = some (.getfield 11, 15, 1) := by decide +kernel
theorem f113_15 : z_fetch 113 15 = some (.iload 1, 16, 0) := by decide +kernel
theorem f113_16 : z_fetch 113 16 = some (.iload 2, 17, 0) := by decide +kernel
theorem f113_17 : z_fetch 113 17 = some (.ishr, 18, 0) := by decide +kernel
theorem f113_18 : z_fetch 113 18 = some (.i2b, 19, 0) := by decide +kernel
theorem f113_19 : z_fetch 113 19 = some (.bastore, 20, 0) := by decide +kernel
theorem f113_20 : z_fetch 113 20 = some (.aload 0, 21, 0) := by decide +kernel
theorem f113_21 : z_fetch 113 21 = some (.dup, 22, 0) := by decide +kernel
theorem f113_22 : z_fetch 113 22 = some (.getfield 11, 25, 1) := by decide +kernel
theorem f113_25 : z_fetch 113 25 = some (.iconst 1, 26, 0) := by decide +kernel
theorem f113_26 : z_fetch 113 26 = some (.iadd, 27, 0) := by decide +kernel
theorem f113_27 : z_fetch 113 27 = some (.putfield 11, 30, 1) := by decide +kernel
theorem f113_30 : z_fetch 113 30 = some (.iinc 2 (-8), 33, 0) := by decide +kernel
theorem f113_33 : z_fetch 113 33 = some (.goto 0, 36, 3) := by decide +kernel
theorem f113_36 : z_fetch 113 36 = some (.return_, 37, 0) := by decide +kernel
theorem f114_0 : z_fetch 114 0 = some (.aload 0, 1, 0) := by decide +kernel
theorem f114_1 : z_fetch 114 1 = some (.getfield 11, 4, 1) := by decide +kernel
theorem f114_4 : z_fetch 114 4 = some (.iconst 20, 6, 0) := by decide +kernel
theorem f114_6 : z_fetch 114 6 = some (.iadd, 7, 0) := by decide +kernel
theorem f114_7 : z_fetch 114 7 = some (.iconst 400, 10, 0) := by decide +kernel
theorem f114_10 : z_fetch 114 10 = some (.if_icmp .le 0, 13, 15) := by decide +kernel
theorem f114_13 : z_fetch 114 13 = some (.iconst (-1), 14, 0) := by decide +kernel
theorem f114_14 : z_fetch 114 14 = some (.ireturn, 15, 0) := by decide +kernel
theorem f114_15 : z_fetch 114 15 = some (.aload 0, 16, 0) := by decide +kernel
theorem f114_16 : z_fetch 114 16 = some (.iload 1, 17, 0) := by decide +kernel
theorem f114_17 : z_fetch 114 17 = some (.invokevirtual 113, 20, 0) := by decide +kernel
theorem f114_20 : z_fetch 114 20 = some (.aload 0, 21, 0) := by decide +kernel
theorem f114_21 : z_fetch 114 21 = some (.iload 2, 22, 0) := by decide +kernel
theorem f114_22 : z_fetch 114 22 = some (.invokevirtual 113, 25, 0) := by decide +kernel
theorem f114_25 : z_fetch 114 25 = some (.aload 0, 26, 0) := by decide +kernel
theorem f114_26 : z_fetch 114 26 = some (.iload 3, 27, 0) := by decide +kernel
theorem f114_27 : z_fetch 114 27 = some (.invokevirtual 113, 30, 0) := by decide +kernel
theorem f114_30 : z_fetch 114 30 = some (.aload 0, 31, 0) := by decide +kernel
theorem f114_31 : z_fetch 114 31 = some (.iload 4, 33, 0) := by decide +kernel
theorem f114_33 : z_fetch 114 33 = some (.invokevirtual 113, 36, 0) := by decide +kernel
theorem f114_36 : z_fetch 114 36 = some (.aload 0, 37, 0) := by decide +kernel
theorem f114_37 : z_fetch 114 37 = some (.iload 5, 39, 0) := by decide +kernel
theorem f114_39 : z_fetch 114 39 = some (.invokevirtual 113, 42, 0) := by decide +kernel
theorem f114_42 : z_fetch 114 42 = some (.aload 0, 43, 0) := by decide +kernel
theorem f114_43 : z_fetch 114 43 = some (.getfield 11, 46, 1) := by decide +kernel
theorem f114_46 : z_fetch 114 46 = some (.ireturn, 47, 0) := by decide +kernel
theorem f115_0 : z_fetch 115 0 = some (.iload 1, 1, 0) := by decide +kernel
theorem f115_1 : z_fetch 115 1 = some (.ifCond .lt 0, 4, 12) := by decide +kernel
theorem f115_4 : z_fetch 115 4 = some (.iload 1, 5, 0) := by decide +kernel
theorem f115_5 : z_fetch 115 5 = some (.aload 0, 6, 0) := by decide +kernel
theorem f115_6 : z_fetch 115 6 = some (.getfield 11, 9, 1) := by decide +kernel
theorem f115_9 : z_fetch 115 9 = some (.if_icmp .le 0, 12, 14) := by decide +kernel
theorem f115_12 : z_fetch 115 12 = some (.iconst (-1), 13, 0) := by decide +kernel
theorem f115_13 : z_fetch 115 13 = some (.ireturn, 14, 0) := by decide +kernel
theorem f115_14 : z_fetch 115 14 = some (.aload 0, 15, 0) := by decide +kernel
theorem f115_15 : z_fetch 115 15 = some (.iload 1, 16, 0) := by decide +kernel
theorem f115_16 : z_fetch 115 16 = some (.putfield 11, 19, 1) := by decide +kernel
theorem f115_19 : z_fetch 115 19 = some (.iload 1, 20, 0) := by decide +kernel
theorem f115_20 : z_fetch 115 20 = some (.ireturn, 21, 0) := by decide +kernel
theorem f116_0 : z_fetch 116 0 = some (.aload 0, 1, 0) := by decide +kernel
theorem f116_1 : z_fetch 116 1 = some (.getfield 11, 4, 14) := by decide +kernel
theorem f116_4 : z_fetch 116 4 = some (.ifCond .ne 0, 7, 19) := by decide +kernel
theorem f116_7 : z_fetch 116 7 = some (.aload 0, 8, 0) := by decide +kernel
theorem f116_8 : z_fetch 116 8 = some (.iconst 1, 9, 0) := by decide +kernel
theorem f116_9 : z_fetch 116 9 = some (.iconst 8, 11, 0) := by decide +kernel
theorem f116_11 : z_fetch 116 11 = some (.iload 2, 12, 0) := by decide +kernel
theorem f116_12 : z_fetch 116 12 = some (.imul, 13, 0) := by decide +kernel
theorem f116_13 : z_fetch 116 13 = some (.iadd, 14, 0) := by decide +kernel
theorem f116_14 : z_fetch 116 14 = some (.iload 1, 15, 0) := by decide +kernel
theorem f116_15 : z_fetch 116 15 = some (.iadd, 16, 0) := by decide +kernel
theorem f116_16 : z_fetch 116 16 = some (.putfield 11, 19, 14) := by decide +kernel
theorem f116_19 : z_fetch 116 19 = some (.iconst 0, 20, 0) := by decide +kernel
theorem f116_20 : z_fetch 116 20 = some (.ireturn, 21, 1) := by decide +kernel
theorem f117_0 : z_fetch 117 0 = some (.aload 0, 1, 0) := by decide +kernel
theorem f117_1 : z_fetch 117 1 = some (.getfield 11, 4, 13) := by decide +kernel
theorem f117_4 : z_fetch 117 4 = some (.aload 0, 5, 0) := by decide +kernel
theorem f117_5 : z_fetch 117 5 = some (.getfield 11, 8, 1) := by decide +kernel
theorem f117_8 : z_fetch 117 8 = some (.if_icmp .ge 0, 11, 38) := by decide +kernel
theorem f117_11 : z_fetch 117 11 = some (.aload 0, 12, 0) := by decide +kernel
theorem f117_12 : z_fetch 117 12 = some (.instanceof 11, 15, 0) := by decide +kernel
theorem f117_15 : z_fetch 117 15 = some (.aload 0, 16, 0) := by decide +kernel
theorem f117_16 : z_fetch 117 16 = some (.getfield 11, 19, 13) := by decide +kernel
theorem f117_19 : z_fetch 117 19 = some (.baload, 20, 0) := by decide +kernel
theorem f117_20 : z_fetch 117 20 = some (.iconst 32, 22, 0) := by decide +kernel
theorem f117_22 : z_fetch 117 22 = some (.if_icmp .ne 0, 25, 38) := by decide +kernel
theorem f117_25 : z_fetch 117 25 = some (.aload 0, 26, 0) := by decide +kernel
theorem f117_26 : z_fetch 117 26 = some (.dup, 27, 0) := by decide +kernel
theorem f117_27 : z_fetch 117 27 = some (.getfield 11, 30, 13) := by decide +kernel
theorem f117_30 : z_fetch 117 30 = some (.iconst 1, 31, 0) := by decide +kernel
theorem f117_31 : z_fetch 117 31 = some (.iadd, 32, 0) := by decide +kernel
theorem f117_32 : z_fetch 117 32 = some (.putfield 11, 35, 13) := by decide +kernel
theorem f117_35 : z_fetch 117 35 = some (.goto 0, 38, 0) := by decide +kernel
theorem f117_38 : z_fetch 117 38 = some (.aload 0, 39, 0) := by decide +kernel
theorem f117_39 : z_fetch 117 39 = some (.getfield 11, 42, 13) := by decide +kernel
theorem f117_42 : z_fetch 117 42 = some (.aload 0, 43, 0) := by decide +kernel
theorem f117_43 : z_fetch 117 43 = some (.getfield 11, 46, 1) := by decide +kernel
theorem f117_46 : z_fetch 117 46 = some (.if_icmp .ge 0, 49, 65) := by decide +kernel
theorem f117_49 : z_fetch 117 49 = some (.aload 0, 50, 0) := by decide +kernel
theorem f117_50 : z_fetch 117 50 = some (.instanceof 11, 53, 0) := by decide +kernel
theorem f117_53 : z_fetch 117 53 = some (.aload 0, 54, 0) := by decide +kernel
theorem f117_54 : z_fetch 117 54 = some (.getfield 11, 57, 13) := by decide +kernel
theorem f117_57 : z_fetch 117 57 = some (.baload, 58, 0) := by decide +kernel
theorem f117_58 : z_fetch 117 58 = some (.iconst 255, 61, 0) := by decide +kernel
theorem f117_61 : z_fetch 117 61 = some (.iand, 62, 0) := by decide +kernel
theorem f117_62 : z_fetch 117 62 = some (.goto 0, 65, 66) := by decide +kernel
theorem f117_65 : z_fetch 117 65 = some (.iconst (-1), 66, 0) := by decide +kernel
theorem f117_66 : z_fetch 117 66 = some (.ireturn, 67, 0) := by decide +kernel
theorem f118_0 : z_fetch 118 0 = some (.iload 1, 1, 0) := by decide +kernel
theorem f118_1 : z_fetch 118 1 = some (.aload 0, 2, 0) := by decide +kernel
theorem f118_2 : z_fetch 118 2 = some (.getfield 11, 5, 1) := by decide +kernel
theorem f118_5 : z_fetch 118 5 = some (.if_icmp .ge 0, 8, 34) := by decide +kernel
theorem f118_8 : z_fetch 118 8 = some (.aload 0, 9, 0) := by decide +kernel
theorem f118_9 : z_fetch 118 9 = some (.instanceof 11, 12, 0) := by decide +kernel
theorem f118_12 : z_fetch 118 12 = some (.iload 1, 13, 0) := by decide +kernel
theorem f118_13 : z_fetch 118 13 = some (.baload, 14, 0) := by decide +kernel
theorem f118_14 : z_fetch 118 14 = some (.iconst 48, 16, 0) := by decide +kernel
theorem f118_16 : z_fetch 118 16 = some (.if_icmp .lt 0, 19, 34) := by decide +kernel
theorem f118_19 : z_fetch 118 19 = some (.aload 0, 20, 0) := by decide +kernel
theorem f118_20 : z_fetch 118 20 = some (.instanceof 11, 23, 0) := by decide +kernel
theorem f118_23 : z_fetch 118 23 = some (.iload 1, 24, 0) := by decide +kernel
theorem f118_24 : z_fetch 118 24 = some (.baload, 25, 0) := by decide +kernel
theorem f118_25 : z_fetch 118 25 = some (.iconst 57, 27, 0) := by decide +kernel
theorem f118_27 : z_fetch 118 27 = some (.if_icmp .gt 0, 30, 34) := by decide +kernel
theorem f118_30 : z_fetch 118 30 = some (.iconst 1, 31, 0) := by decide +kernel
theorem f118_31 : z_fetch 118 31 = some (.goto 0, 34, 35) := by decide +kernel
theorem f118_34 : z_fetch 118 34 = some (.iconst 0, 35, 0) := by decide +kernel
theorem f118_35 : z_fetch 118 35 = some (.ireturn, 36, 1) := by decide +kernel
theorem f119_0 : z_fetch 119 0 = some (.iload 1, 1, 0) := by decide +kernel
theorem f119_1 : z_fetch 119 1 = some (.aload 0, 2, 0) := by decide +kernel
theorem f119_2 : z_fetch 119 2 = some (.getfield 11, 5, 1) := by decide +kernel
theorem f119_5 : z_fetch 119 5 = some (.if_icmp .ge 0, 8, 34) := by decide +kernel
theorem f119_8 : z_fetch 119 8 = some (.aload 0, 9, 0) := by decide +kernel
theorem f119_9 : z_fetch 119 9 = some (.instanceof 11, 12, 0) := by decide +kernel
theorem f119_12 : z_fetch 119 12 = some (.iload 1, 13, 0) := by decide +kernel
theorem f119_13 : z_fetch 119 13 = some (.baload, 14, 0) := by decide +kernel
theorem f119_14 : z_fetch 119 14 = some (.iconst 97, 16, 0) := by decide +kernel
theorem f119_16 : z_fetch 119 16 = some (.if_icmp .lt 0, 19, 34) := by decide +kernel
theorem f119_19 : z_fetch 119 19 = some (.aload 0, 20, 0) := by decide +kernel
theorem f119_20 : z_fetch 119 20 = some (.instanceof 11, 23, 0) := by decide +kernel
theorem f119_23 : z_fetch 119 23 = some (.iload 1, 24, 0) := by decide +kernel
theorem f119_24 : z_fetch 119 24 = some (.baload, 25, 0) := by decide +kernel
theorem f119_25 : z_fetch 119 25 = some (.iconst 122, 27, 0) := by decide +kernel
theorem f119_27 : z_fetch 119 27 = some (.if_icmp .gt 0, 30, 34) := by decide +kernel
theorem f119_30 : z_fetch 119 30 = some (.iconst 1, 31, 0) := by decide +kernel
theorem f119_31 : z_fetch 119 31 = some (.goto 0, 34, 35) := by decide +kernel
theorem f119_34 : z_fetch 119 34 = some (.iconst 0, 35, 0) := by decide +kernel
theorem f119_35 : z_fetch 119 35 = some (.ireturn, 36, 1) := by decide +kernel
theorem f120_0 : z_fetch 120 0 = some (.aload 0, 1, 0) := by decide +kernel
theorem f120_1 : z_fetch 120 1 = some (.invokevirtual 117, 4, 0) := by decide +kernel
theorem f120_4 : z_fetch 120 4 = some (.pop, 5, 0) := by decide +kernel
theorem f120_5 : z_fetch 120 5 = some (.goto_w 0, 6, 0) := by decide +kernel
theorem f120_6 : z_fetch 120 6 = some (.lstore 3, 7, 0) := by decide +kernel
theorem f120_7 : z_fetch 120 7 = some (.iconst 0, 8, 0) := by decide +kernel
theorem f120_8 : z_fetch 120 8 = some (.istore 5, 10, 0) := by decide +kernel
theorem f120_10 : z_fetch 120 10 = some (.aload 0, 11, 0) := by decide +kernel
theorem f120_11 : z_fetch 120 11 = some (.aload 0, 12, 0) := by decide +kernel
theorem f120_12 : z_fetch 120 12 = some (.getfield 11, 15, 13) := by decide +kernel
theorem f120_15 : z_fetch 120 15 = some (.iload 5, 17, 0) := by decide +kernel
theorem f120_17 : z_fetch 120 17 = some (.iadd, 18, 0) := by decide +kernel
theorem f120_18 : z_fetch 120 18 = some (.invokevirtual 119, 21, 0) := by decide +kernel
theorem f120_21 : z_fetch 120 21 = some (.ifCond .eq 0, 24, 56) := by decide +kernel
theorem f120_24 : z_fetch 120 24 = some (.iload 5, 26, 0) := by decide +kernel
theorem f120_26 : z_fetch 120 26 = some (.iconst 8, 28, 0) := by decide +kernel
theorem f120_28 : z_fetch 120 28 = some (.if_icmp .ge 0, 31, 50) := by decide +kernel
theorem f120_31 : z_fetch 120 31 = some (.lload 3, 32, 0) := by decide +kernel
theorem f120_32 : z_fetch 120 32 = some (.iconst 8, 34, 0) := by decide +kernel
theorem f120_34 : z_fetch 120 34 = some (.lshl, 35, 0) := by decide +kernel
theorem f120_35 : z_fetch 120 35 = some (.aload 0, 36, 0) := by decide +kernel
theorem f120_36 : z_fetch 120 36 = some (.instanceof 11, 39, 0) := by decide +kernel
theorem f120_39 : z_fetch 120 39 = some (.aload 0, 40, 0) := by decide +kernel
theorem f120_40 : z_fetch 120 40 = some (.getfield 11, 43, 13) := by decide +kernel
theorem f120_43 : z_fetch 120 43 = some (.iload 5, 45, 0) := by decide +kernel
theorem f120_45 : z_fetch 120 45 = some (.iadd, 46, 0) := by decide +kernel
theorem f120_46 : z_fetch 120 46 = some (.baload, 47, 0) := by decide +kernel
theorem f120_47 : z_fetch 120 47 = some (.i2l, 48, 0) := by decide +kernel
theorem f120_48 : z_fetch 120 48 = some (.lor, 49, 0) := by decide +kernel
theorem f120_49 : z_fetch 120 49 = some (.lstore 3, 50, 0) := by decide +kernel
theorem f120_50 : z_fetch 120 50 = some (.iinc 5 1, 53, 0) := by decide +kernel
theorem f120_53 : z_fetch 120 53 = some (.goto 0, 56, 10) := by decide +kernel
theorem f120_56 : z_fetch 120 56 = some (.iload 5, 58, 0) := by decide +kernel
theorem f120_58 : z_fetch 120 58 = some (.ifCond .le 0, 61, 78) := by decide +kernel
theorem f120_61 : z_fetch 120 61 = some (.iload 5, 63, 0) := by decide +kernel
theorem f120_63 : z_fetch 120 63 = some (.iconst 8, 65, 0) := by decide +kernel
theorem f120_65 : z_fetch 120 65 = some (.if_icmp .ge 0, 68, 78) := by decide +kernel
theorem f120_68 : z_fetch 120 68 = some (.lload 3, 69, 0) := by decide +kernel
theorem f120_69 : z_fetch 120 69 = some (.lload 1, 70, 0) := by decide +kernel
theorem f120_70 : z_fetch 120 70 = some (.lcmp, 71, 0) := by decide +kernel
theorem f120_71 : z_fetch 120 71 = some (.ifCond .ne 0, 74, 78) := by decide +kernel
theorem f120_74 : z_fetch 120 74 = some (.iconst 1, 75, 0) := by decide +kernel
theorem f120_75 : z_fetch 120 75 = some (.goto 0, 78, 79) := by decide +kernel
theorem f120_78 : z_fetch 120 78 = some (.iconst 0, 79, 0) := by decide +kernel
theorem f120_79 : z_fetch 120 79 = some (.ireturn, 80, 1) := by decide +kernel
theorem f121_0 : z_fetch 121 0 = some (.aload 0, 1, 0) := by decide +kernel
theorem f121_1 : z_fetch 121 1 = some (.aload 0, 2, 0) := by decide +kernel
theorem f121_2 : z_fetch 121 2 = some (.getfield 11, 5, 13) := by decide +kernel
theorem f121_5 : z_fetch 121 5 = some (.invokevirtual 119, 8, 0) := by decide +kernel
theorem f121_8 : z_fetch 121 8 = some (.ifCond .eq 0, 11, 24) := by decide +kernel
theorem f121_11 : z_fetch 121 11 = some (.aload 0, 12, 0) := by decide +kernel
theorem f121_12 : z_fetch 121 12 = some (.dup, 13, 0) := by decide +kernel
theorem f121_13 : z_fetch 121 13 = some (.getfield 11, 16, 13) := by decide +kernel
theorem f121_16 : z_fetch 121 16 = some (.iconst 1, 17, 0) := by decide +kernel
theorem f121_17 : z_fetch 121 17 = some (.iadd, 18, 0) := by decide +kernel
theorem f121_18 : z_fetch 121 18 = some (.putfield 11, 21, 13) := by decide +kernel
theorem f121_21 : z_fetch 121 21 = some (.goto 0, 24, 0) := by decide +kernel
theorem f121_24 : z_fetch 121 24 = some (.return_, 25, 0) := by decide +kernel
theorem f122_0 : z_fetch 122 0 = some (.aload 0, 1, 0) := by decide +kernel
theorem f122_1 : z_fetch 122 1 = some (.invokevirtual 117, 4, 0) := by decide +kernel
theorem f122_4 : z_fetch 122 4 = some (.pop, 5, 0) := by decide +kernel
theorem f122_5 : z_fetch 122 5 = some (.aload 0, 6, 0) := by decide +kernel
theorem f122_6 : z_fetch 122 6 = some (.aload 0, 7, 0) := by decide +kernel
theorem f122_7 : z_fetch 122 7 = some (.getfield 11, 10, 13) := by decide +kernel
theorem f122_10 : z_fetch 122 10 = some (.invokevirtual 118, 13, 0) := by decide +kernel
theorem f122_13 : z_fetch 122 13 = some (.ifCond .ne 0, 16, 26) := by decide +kernel
theorem f122_16 : z_fetch 122 16 = some (.aload 0, 17, 0) := by decide +kernel
theorem f122_17 : z_fetch 122 17 = some (.iconst 0, 18, 0) := by decide +kernel
theorem f122_18 : z_fetch 122 18 = some (.aload 0, 19, 0) := by decide +kernel
theorem f122_19 : z_fetch 122 19 = some (.getfield 11, 22, 13) := by decide +kernel
theorem f122_22 : z_fetch 122 22 = some (.invokevirtual 116, 25, 0) := by decide +kernel
theorem f122_25 : z_fetch 122 25 = some (.ireturn, 26, 1) := by decide +kernel
theorem f122_26 : z_fetch 122 26 = some (.aload 0, 27, 0) := by decide +kernel
theorem f122_27 : z_fetch 122 27 = some (.getfield 11, 30, 13) := by decide +kernel
theorem f122_30 : z_fetch 122 30 = some (.istore 3, 31, 0) := by decide +kernel
theorem f122_31 : z_fetch 122 31 = some (.iconst 0, 32, 0) := by decide +kernel
theorem f122_32 : z_fetch 122 32 = some (.istore 4, 34, 0) := by decide +kernel
theorem f122_34 : z_fetch 122 34 = some (.aload 0, 35, 0) := by decide +kernel
theorem f122_35 : z_fetch 122 35 = some (.aload 0, 36, 0) := by decide +kernel
theorem f122_36 : z_fetch 122 36 = some (.getfield 11, 39, 13) := by decide +kernel
theorem f122_39 : z_fetch 122 39 = some (.invokevirtual 118, 42, 0) := by decide +kernel
theorem f122_42 : z_fetch 122 42 = some (.ifCond .eq 0, 45, 88) := by decide +kernel
theorem f122_45 : z_fetch 122 45 = some (.aload 0, 46, 0) := by decide +kernel
theorem f122_46 : z_fetch 122 46 = some (.getfield 11, 49, 13) := by decide +kernel
theorem f122_49 : z_fetch 122 49 = some (.iload 3, 50, 0) := by decide +kernel
theorem f122_50 : z_fetch 122 50 = some (.isub, 51, 0) := by decide +kernel
theorem f122_51 : z_fetch 122 51 = some (.iconst 5, 52, 0) := by decide +kernel
theorem f122_52 : z_fetch 122 52 = some (.if_icmp .ge 0, 55, 75) := by decide +kernel
theorem f122_55 : z_fetch 122 55 = some (.iconst 10, 57, 0) := by decide +kernel
theorem f122_57 : z_fetch 122 57 = some (.iload 4, 59, 0) := by decide +kernel
theorem f122_59 : z_fetch 122 59 = some (.imul, 60, 0) := by decide +kernel
theorem f122_60 : z_fetch 122 60 = some (.aload 0, 61, 0) := by decide +kernel
theorem f122_61 : z_fetch 122 61 = some (.instanceof 11, 64, 0) := by decide +kernel
theorem f122_64 : z_fetch 122 64 = some (.aload 0, 65, 0) := by decide +kernel
theorem f122_65 : z_fetch 122 65 = some (.getfield 11, 68, 13) := by decide +kernel
theorem f122_68 : z_fetch 122 68 = some (.baload, 69, 0) := by decide +kernel
theorem f122_69 : z_fetch 122 69 = some (.iadd, 70, 0) := by decide +kernel
theorem f122_70 : z_fetch 122 70 = some (.iconst 48, 72, 0) := by decide +kernel
theorem f122_72 : z_fetch 122 72 = some (.isub, 73, 0) := by decide +kernel
theorem f122_73 : z_fetch 122 73 = some (.istore 4, 75, 0) := by decide +kernel
theorem f122_75 : z_fetch 122 75 = some (.aload 0, 76, 0) := by decide +kernel
theorem f122_76 : z_fetch 122 76 = some (.dup, 77, 0) := by decide +kernel
theorem f122_77 : z_fetch 122 77 = some (.getfield 11, 80, 13) := by decide +kernel
theorem f122_80 : z_fetch 122 80 = some (.iconst 1, 81, 0) := by decide +kernel
theorem f122_81 : z_fetch 122 81 = some (.iadd, 82, 0) := by decide +kernel
theorem f122_82 : z_fetch 122 82 = some (.putfield 11, 85, 13) := by decide +kernel
theorem f122_85 : z_fetch 122 85 = some (.goto 0, 88, 34) := by decide +kernel
theorem f122_88 : z_fetch 122 88 = some (.aload 0, 89, 0) := by decide +kernel
theorem f122_89 : z_fetch 122 89 = some (.iload 4, 91, 0) := by decide +kernel
theorem f122_91 : z_fetch 122 91 = some (.putfield 11, 94, 15) := by decide +kernel
theorem f122_94 : z_fetch 122 94 = some (.aload 0, 95, 0) := by decide +kernel
theorem f122_95 : z_fetch 122 95 = some (.getfield 11, 98, 13) := by decide +kernel
theorem f122_98 : z_fetch 122 98 = some (.iload 3, 99, 0) := by decide +kernel
theorem f122_99 : z_fetch 122 99 = some (.isub, 100, 0) := by decide +kernel
theorem f122_100 : z_fetch 122 100 = some (.iconst 5, 101, 0) := by decide +kernel
theorem f122_101 : z_fetch 122 101 = some (.if_icmp .gt 0, 104, 117) := by decide +kernel
theorem f122_104 : z_fetch 122 104 = some (.iload 4, 106, 0) := by decide +kernel
theorem f122_106 : z_fetch 122 106 = some (.i2l, 107, 0) := by decide +kernel
theorem f122_107 : z_fetch 122 107 = some (.iload 1, 108, 0) := by decide +kernel
theorem f122_108 : z_fetch 122 108 = some (.i2l, 109, 0) := by decide +kernel
theorem f122_109 : z_fetch 122 109 = some (.iload 2, 110, 0) := by decide +kernel
theorem f122_110 : z_fetch 122 110 = some (.i2l, 111, 0) := by decide +kernel
theorem f122_111 : z_fetch 122 111 = some (.invokestatic 110, 114, 0) := by decide +kernel
theorem f122_114 : z_fetch 122 114 = some (.ifCond .ne 0, 117, 126) := by decide +kernel
theorem f122_117 : z_fetch 122 117 = some (.aload 0, 118, 0) := by decide +kernel
theorem f122_118 : z_fetch 122 118 = some (.iconst 1, 119, 0) := by decide +kernel
theorem f122_119 : z_fetch 122 119 = some (.iload 3, 120, 0) := by decide +kernel
theorem f122_120 : z_fetch 122 120 = some (.invokevirtual 116, 123, 0) := by decide +kernel
theorem f122_123 : z_fetch 122 123 = some (.ifCond .eq 0, 126, 130) := by decide +kernel
theorem f122_126 : z_fetch 122 126 = some (.iconst 1, 127, 0) := by decide +kernel
theorem f122_127 : z_fetch 122 127 = some (.goto 0, 130, 131) := by decide +kernel
theorem f122_130 : z_fetch 122 130 = some (.iconst 0, 131, 0) := by decide +kernel
theorem f122_131 : z_fetch 122 131 = some (.ireturn, 132, 1) := by decide +kernel
