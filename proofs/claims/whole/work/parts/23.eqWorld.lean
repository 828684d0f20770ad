theorem dX2_pass_1 : decode cX2_pass 1 = .ok (.dup, 1) := by decide +kernel
theorem dX2_pass_0 : decode cX2_pass 0 = .ok (.aload_n 0, 1) := by decide +kernel
theorem dX2_pass_2 : decode cX2_pass 2 = .ok (.getfield 9, 3) := by decide +kernel
theorem dX2_pass_6 : decode cX2_pass 6 = .ok (.iadd, 1) := by decide +kernel
theorem dX2_pass_5 : decode cX2_pass 5 = .ok (.iconst 1, 1) := by decide +kernel
theorem dX2_pass_7 : decode cX2_pass 7 = .ok (.putfield 9, 3) := by decide +kernel
theorem dX2_pass_11 : decode cX2_pass 11 = .ok (.istore_n 1, 1) := by decide +kernel
theorem dX2_pass_10 : decode cX2_pass 10 = .ok (.iconst 0, 1) := by decide +kernel
theorem dX2_pass_13 : decode cX2_pass 13 = .ok (.aload_n 0, 1) := by decide +kernel
theorem dX2_pass_12 : decode cX2_pass 12 = .ok (.iload_n 1, 1) := by decide +kernel
theorem dX2_pass_14 : decode cX2_pass 14 = .ok (.getfield 15, 3) := by decide +kernel
theorem dX2_pass_17 : decode cX2_pass 17 = .ok (.invokevirtual 19, 3) := by decide +kernel
theorem dX2_pass_20 : decode cX2_pass 20 = .ok (.if_icmp .ge 32, 3) := by decide +kernel
theorem dX2_pass_53 : decode cX2_pass 53 = .ok (.istore_n 1, 1) := by decide +kernel
theorem dX2_pass_52 : decode cX2_pass 52 = .ok (.iconst 0, 1) := by decide +kernel
theorem dX2_pass_25 : decode cX2_pass 25 = .ok (.iconst 0, 1) := by decide +kernel
theorem dX2_pass_24 : decode cX2_pass 24 = .ok (.iload_n 1, 1) := by decide +kernel
theorem dX2_pass_23 : decode cX2_pass 23 = .ok (.aload_n 0, 1) := by decide +kernel
theorem dX2_pass_26 : decode cX2_pass 26 = .ok (.invokevirtual 25, 3) := by decide +kernel
theorem dX2_pass_55 : decode cX2_pass 55 = .ok (.aload_n 0, 1) := by decide +kernel
theorem dX2_pass_54 : decode cX2_pass 54 = .ok (.iload_n 1, 1) := by decide +kernel
theorem dX2_pass_56 : decode cX2_pass 56 = .ok (.getfield 15, 3) := by decide +kernel
theorem dX2_pass_59 : decode cX2_pass 59 = .ok (.invokevirtual 19, 3) := by decide +kernel
theorem dX2_pass_29 : decode cX2_pass 29 = .ok (.ifCond .eq 17, 3) := by decide +kernel
theorem dX2_pass_49 : decode cX2_pass 49 = .ok (.goto (-37), 3) := by decide +kernel
theorem dX2_pass_46 : decode cX2_pass 46 = .ok (.iinc 1 1, 3) := by decide +kernel
theorem dX2_pass_34 : decode cX2_pass 34 = .ok (.iconst 4, 1) := by decide +kernel
theorem dX2_pass_33 : decode cX2_pass 33 = .ok (.iload_n 1, 1) := by decide +kernel
theorem dX2_pass_32 : decode cX2_pass 32 = .ok (.aload_n 0, 1) := by decide +kernel
theorem dX2_pass_35 : decode cX2_pass 35 = .ok (.invokevirtual 29, 3) := by decide +kernel
theorem dX2_pass_62 : decode cX2_pass 62 = .ok (.if_icmp .ge 32, 3) := by decide +kernel
theorem dX2_pass_95 : decode cX2_pass 95 = .ok (.istore_n 1, 1) := by decide +kernel
theorem dX2_pass_94 : decode cX2_pass 94 = .ok (.iconst 0, 1) := by decide +kernel
theorem dX2_pass_67 : decode cX2_pass 67 = .ok (.iconst 0, 1) := by decide +kernel
theorem dX2_pass_66 : decode cX2_pass 66 = .ok (.iload_n 1, 1) := by decide +kernel
theorem dX2_pass_65 : decode cX2_pass 65 = .ok (.aload_n 0, 1) := by decide +kernel
theorem dX2_pass_68 : decode cX2_pass 68 = .ok (.invokevirtual 25, 3) := by decide +kernel
theorem dX2_pass_38 : decode cX2_pass 38 = .ok (.ifCond .ne 8, 3) := by decide +kernel
theorem dX2_pass_42 : decode cX2_pass 42 = .ok (.iload_n 1, 1) := by decide +kernel
theorem dX2_pass_41 : decode cX2_pass 41 = .ok (.aload_n 0, 1) := by decide +kernel
theorem dX2_pass_43 : decode cX2_pass 43 = .ok (.invokestatic 32, 3) := by decide +kernel
theorem dX2_pass_97 : decode cX2_pass 97 = .ok (.aload_n 0, 1) := by decide +kernel
theorem dX2_pass_96 : decode cX2_pass 96 = .ok (.iload_n 1, 1) := by decide +kernel
theorem dX2_pass_98 : decode cX2_pass 98 = .ok (.getfield 41, 3) := by decide +kernel
theorem dX2_pass_101 : decode cX2_pass 101 = .ok (.invokevirtual 19, 3) := by decide +kernel
theorem dX2_pass_71 : decode cX2_pass 71 = .ok (.ifCond .eq 17, 3) := by decide +kernel
theorem dX2_pass_91 : decode cX2_pass 91 = .ok (.goto (-37), 3) := by decide +kernel
theorem dX2_pass_88 : decode cX2_pass 88 = .ok (.iinc 1 1, 3) := by decide +kernel
theorem dX2_pass_76 : decode cX2_pass 76 = .ok (.iconst 4, 1) := by decide +kernel
theorem dX2_pass_75 : decode cX2_pass 75 = .ok (.iload_n 1, 1) := by decide +kernel
theorem dX2_pass_74 : decode cX2_pass 74 = .ok (.aload_n 0, 1) := by decide +kernel
theorem dX2_pass_77 : decode cX2_pass 77 = .ok (.invokevirtual 29, 3) := by decide +kernel
theorem dX2_pass_104 : decode cX2_pass 104 = .ok (.if_icmp .ge 14, 3) := by decide +kernel
theorem dX2_pass_118 : decode cX2_pass 118 = .ok (.return_, 1) := by decide +kernel
theorem dX2_pass_108 : decode cX2_pass 108 = .ok (.iload_n 1, 1) := by decide +kernel
theorem dX2_pass_107 : decode cX2_pass 107 = .ok (.aload_n 0, 1) := by decide +kernel
theorem dX2_pass_109 : decode cX2_pass 109 = .ok (.invokestatic 44, 3) := by decide +kernel
theorem dX2_pass_80 : decode cX2_pass 80 = .ok (.ifCond .eq 8, 3) := by decide +kernel
theorem dX2_pass_84 : decode cX2_pass 84 = .ok (.iload_n 1, 1) := by decide +kernel
theorem dX2_pass_83 : decode cX2_pass 83 = .ok (.aload_n 0, 1) := by decide +kernel
theorem dX2_pass_85 : decode cX2_pass 85 = .ok (.invokestatic 38, 3) := by decide +kernel
theorem dX2_pass_115 : decode cX2_pass 115 = .ok (.goto (-19), 3) := by decide +kernel
theorem dX2_pass_112 : decode cX2_pass 112 = .ok (.iinc 1 1, 3) := by decide +kernel
theorem dX2_goOn_0 : decode cX2_goOn 0 = .ok (.aload_n 0, 1) := by decide +kernel
theorem dX2_goOn_1 : decode cX2_goOn 1 = .ok (.getfield 15, 3) := by decide +kernel
theorem dX2_goOn_7 : decode cX2_goOn 7 = .ok (.iconst 1, 1) := by decide +kernel
theorem dX2_goOn_6 : decode cX2_goOn 6 = .ok (.iload_n 1, 1) := by decide +kernel
theorem dX2_goOn_5 : decode cX2_goOn 5 = .ok (.aload_n 2, 1) := by decide +kernel
theorem dX2_goOn_4 : decode cX2_goOn 4 = .ok (.astore_n 2, 1) := by decide +kernel
theorem dX2_goOn_8 : decode cX2_goOn 8 = .ok (.invokevirtual 47, 3) := by decide +kernel
theorem dX2_goOn_13 : decode cX2_goOn 13 = .ok (.iconst 4, 1) := by decide +kernel
theorem dX2_goOn_12 : decode cX2_goOn 12 = .ok (.iload_n 1, 1) := by decide +kernel
theorem dX2_goOn_11 : decode cX2_goOn 11 = .ok (.aload_n 2, 1) := by decide +kernel
theorem dX2_goOn_14 : decode cX2_goOn 14 = .ok (.invokevirtual 47, 3) := by decide +kernel
theorem dX2_goOn_19 : decode cX2_goOn 19 = .ok (.iconst 3, 1) := by decide +kernel
theorem dX2_goOn_18 : decode cX2_goOn 18 = .ok (.iload_n 1, 1) := by decide +kernel
theorem dX2_goOn_17 : decode cX2_goOn 17 = .ok (.aload_n 2, 1) := by decide +kernel
theorem dX2_goOn_20 : decode cX2_goOn 20 = .ok (.invokevirtual 47, 3) := by decide +kernel
theorem dX2_goOn_23 : decode cX2_goOn 23 = .ok (.invokestatic 51, 3) := by decide +kernel
theorem dX2_goOn_28 : decode cX2_goOn 28 = .ok (.ifCond .ge 14, 3) := by decide +kernel
theorem dX2_goOn_27 : decode cX2_goOn 27 = .ok (.iload_n 3, 1) := by decide +kernel
theorem dX2_goOn_26 : decode cX2_goOn 26 = .ok (.istore_n 3, 1) := by decide +kernel
theorem dX2_goOn_45 : decode cX2_goOn 45 = .ok (.iload_n 3, 1) := by decide +kernel
theorem dX2_goOn_44 : decode cX2_goOn 44 = .ok (.iconst 1, 1) := by decide +kernel
theorem dX2_goOn_43 : decode cX2_goOn 43 = .ok (.iload_n 1, 1) := by decide +kernel
theorem dX2_goOn_42 : decode cX2_goOn 42 = .ok (.aload_n 2, 1) := by decide +kernel
theorem dX2_goOn_46 : decode cX2_goOn 46 = .ok (.invokevirtual 57, 3) := by decide +kernel
theorem dX2_goOn_35 : decode cX2_goOn 35 = .ok (.iconst 2, 1) := by decide +kernel
theorem dX2_goOn_33 : decode cX2_goOn 33 = .ok (.bipush 6, 2) := by decide +kernel
theorem dX2_goOn_32 : decode cX2_goOn 32 = .ok (.iload_n 1, 1) := by decide +kernel
theorem dX2_goOn_31 : decode cX2_goOn 31 = .ok (.aload_n 2, 1) := by decide +kernel
theorem dX2_goOn_36 : decode cX2_goOn 36 = .ok (.invokevirtual 57, 3) := by decide +kernel
theorem dX2_goOn_49 : decode cX2_goOn 49 = .ok (.return_, 1) := by decide +kernel
theorem dX2_goOn_39 : decode cX2_goOn 39 = .ok (.goto 10, 3) := by decide +kernel
theorem dX2_flyOn_0 : decode cX2_flyOn 0 = .ok (.aload_n 0, 1) := by decide +kernel
theorem dX2_flyOn_1 : decode cX2_flyOn 1 = .ok (.getfield 15, 3) := by decide +kernel
theorem dX2_flyOn_7 : decode cX2_flyOn 7 = .ok (.bipush 7, 2) := by decide +kernel
theorem dX2_flyOn_6 : decode cX2_flyOn 6 = .ok (.iload_n 1, 1) := by decide +kernel
theorem dX2_flyOn_5 : decode cX2_flyOn 5 = .ok (.aload_n 2, 1) := by decide +kernel
theorem dX2_flyOn_4 : decode cX2_flyOn 4 = .ok (.astore_n 2, 1) := by decide +kernel
theorem dX2_flyOn_9 : decode cX2_flyOn 9 = .ok (.invokevirtual 47, 3) := by decide +kernel
theorem dX2_flyOn_20 : decode cX2_flyOn 20 = .ok (.iconst 0, 1) := by decide +kernel
theorem dX2_flyOn_19 : decode cX2_flyOn 19 = .ok (.iload_n 3, 1) := by decide +kernel
theorem dX2_flyOn_17 : decode cX2_flyOn 17 = .ok (.bipush 7, 2) := by decide +kernel
theorem dX2_flyOn_16 : decode cX2_flyOn 16 = .ok (.iload_n 1, 1) := by decide +kernel
theorem dX2_flyOn_15 : decode cX2_flyOn 15 = .ok (.aload_n 2, 1) := by decide +kernel
theorem dX2_flyOn_14 : decode cX2_flyOn 14 = .ok (.istore_n 3, 1) := by decide +kernel
theorem dX2_flyOn_13 : decode cX2_flyOn 13 = .ok (.isub, 1) := by decide +kernel
theorem dX2_flyOn_12 : decode cX2_flyOn 12 = .ok (.iconst 1, 1) := by decide +kernel
theorem dX2_flyOn_21 : decode cX2_flyOn 21 = .ok (.invokestatic 61, 3) := by decide +kernel
theorem dX2_flyOn_24 : decode cX2_flyOn 24 = .ok (.invokevirtual 57, 3) := by decide +kernel
theorem dX2_flyOn_28 : decode cX2_flyOn 28 = .ok (.ifCond .ge 20, 3) := by decide +kernel
theorem dX2_flyOn_27 : decode cX2_flyOn 27 = .ok (.iload_n 3, 1) := by decide +kernel
theorem dX2_flyOn_51 : decode cX2_flyOn 51 = .ok (.bipush 9, 2) := by decide +kernel
theorem dX2_flyOn_50 : decode cX2_flyOn 50 = .ok (.iload_n 1, 1) := by decide +kernel
theorem dX2_flyOn_49 : decode cX2_flyOn 49 = .ok (.aload_n 2, 1) := by decide +kernel
theorem dX2_flyOn_48 : decode cX2_flyOn 48 = .ok (.aload_n 0, 1) := by decide +kernel
theorem dX2_flyOn_53 : decode cX2_flyOn 53 = .ok (.invokevirtual 47, 3) := by decide +kernel
theorem dX2_flyOn_35 : decode cX2_flyOn 35 = .ok (.iconst 2, 1) := by decide +kernel
theorem dX2_flyOn_33 : decode cX2_flyOn 33 = .ok (.bipush 6, 2) := by decide +kernel
theorem dX2_flyOn_32 : decode cX2_flyOn 32 = .ok (.iload_n 1, 1) := by decide +kernel
theorem dX2_flyOn_31 : decode cX2_flyOn 31 = .ok (.aload_n 2, 1) := by decide +kernel
theorem dX2_flyOn_36 : decode cX2_flyOn 36 = .ok (.invokevirtual 57, 3) := by decide +kernel
theorem dX2_flyOn_56 : decode cX2_flyOn 56 = .ok (.iconst 0, 1) := by decide +kernel
theorem dX2_flyOn_57 : decode cX2_flyOn 57 = .ok (.invokevirtual 25, 3) := by decide +kernel
theorem dX2_flyOn_43 : decode cX2_flyOn 43 = .ok (.iconst (-1), 1) := by decide +kernel
theorem dX2_flyOn_41 : decode cX2_flyOn 41 = .ok (.bipush 9, 2) := by decide +kernel
theorem dX2_flyOn_40 : decode cX2_flyOn 40 = .ok (.iload_n 1, 1) := by decide +kernel
theorem dX2_flyOn_39 : decode cX2_flyOn 39 = .ok (.aload_n 2, 1) := by decide +kernel
theorem dX2_flyOn_44 : decode cX2_flyOn 44 = .ok (.invokevirtual 57, 3) := by decide +kernel
theorem dX2_flyOn_60 : decode cX2_flyOn 60 = .ok (.ifCond .ne 11, 3) := by decide +kernel
theorem dX2_flyOn_67 : decode cX2_flyOn 67 = .ok (.iconst (-1), 1) := by decide +kernel
theorem dX2_flyOn_65 : decode cX2_flyOn 65 = .ok (.bipush 9, 2) := by decide +kernel
theorem dX2_flyOn_64 : decode cX2_flyOn 64 = .ok (.iload_n 1, 1) := by decide +kernel
theorem dX2_flyOn_63 : decode cX2_flyOn 63 = .ok (.aload_n 2, 1) := by decide +kernel
theorem dX2_flyOn_68 : decode cX2_flyOn 68 = .ok (.invokevirtual 57, 3) := by decide +kernel
theorem dX2_flyOn_73 : decode cX2_flyOn 73 = .ok (.bipush 9, 2) := by decide +kernel
theorem dX2_flyOn_72 : decode cX2_flyOn 72 = .ok (.iload_n 1, 1) := by decide +kernel
theorem dX2_flyOn_71 : decode cX2_flyOn 71 = .ok (.aload_n 2, 1) := by decide +kernel
theorem dX2_flyOn_75 : decode cX2_flyOn 75 = .ok (.invokevirtual 47, 3) := by decide +kernel
theorem dX2_flyOn_47 : decode cX2_flyOn 47 = .ok (.return_, 1) := by decide +kernel
theorem dX2_flyOn_82 : decode cX2_flyOn 82 = .ok (.ifCond .ge 11, 3) := by decide +kernel
theorem dX2_flyOn_80 : decode cX2_flyOn 80 = .ok (.iload 4, 2) := by decide +kernel
theorem dX2_flyOn_78 : decode cX2_flyOn 78 = .ok (.istore 4, 2) := by decide +kernel
theorem dX2_flyOn_96 : decode cX2_flyOn 96 = .ok (.iconst 1, 1) := by decide +kernel
theorem dX2_flyOn_94 : decode cX2_flyOn 94 = .ok (.iload 4, 2) := by decide +kernel
theorem dX2_flyOn_93 : decode cX2_flyOn 93 = .ok (.aload_n 2, 1) := by decide +kernel
theorem dX2_flyOn_97 : decode cX2_flyOn 97 = .ok (.invokevirtual 47, 3) := by decide +kernel
theorem dX2_flyOn_86 : decode cX2_flyOn 86 = .ok (.iload_n 1, 1) := by decide +kernel
theorem dX2_flyOn_85 : decode cX2_flyOn 85 = .ok (.aload_n 0, 1) := by decide +kernel
theorem dX2_flyOn_87 : decode cX2_flyOn 87 = .ok (.invokestatic 66, 3) := by decide +kernel
theorem dX2_flyOn_104 : decode cX2_flyOn 104 = .ok (.ifCond .ge 7, 3) := by decide +kernel
theorem dX2_flyOn_102 : decode cX2_flyOn 102 = .ok (.iload 4, 2) := by decide +kernel
theorem dX2_flyOn_100 : decode cX2_flyOn 100 = .ok (.istore 5, 2) := by decide +kernel
theorem dX2_flyOn_114 : decode cX2_flyOn 114 = .ok (.iconst 2, 1) := by decide +kernel
theorem dX2_flyOn_112 : decode cX2_flyOn 112 = .ok (.iload 4, 2) := by decide +kernel
theorem dX2_flyOn_111 : decode cX2_flyOn 111 = .ok (.aload_n 2, 1) := by decide +kernel
theorem dX2_flyOn_115 : decode cX2_flyOn 115 = .ok (.invokevirtual 47, 3) := by decide +kernel
theorem dX2_flyOn_108 : decode cX2_flyOn 108 = .ok (.goto 10, 3) := by decide +kernel
theorem dX2_flyOn_107 : decode cX2_flyOn 107 = .ok (.iconst 0, 1) := by decide +kernel
theorem dX2_flyOn_125 : decode cX2_flyOn 125 = .ok (.iconst 2, 1) := by decide +kernel
theorem dX2_flyOn_124 : decode cX2_flyOn 124 = .ok (.iload_n 1, 1) := by decide +kernel
theorem dX2_flyOn_123 : decode cX2_flyOn 123 = .ok (.aload_n 2, 1) := by decide +kernel
theorem dX2_flyOn_122 : decode cX2_flyOn 122 = .ok (.iconst 2, 1) := by decide +kernel
theorem dX2_flyOn_121 : decode cX2_flyOn 121 = .ok (.iload_n 1, 1) := by decide +kernel
theorem dX2_flyOn_120 : decode cX2_flyOn 120 = .ok (.aload_n 2, 1) := by decide +kernel
theorem dX2_flyOn_118 : decode cX2_flyOn 118 = .ok (.istore 6, 2) := by decide +kernel
theorem dX2_flyOn_126 : decode cX2_flyOn 126 = .ok (.invokevirtual 47, 3) := by decide +kernel
theorem dX2_flyOn_90 : decode cX2_flyOn 90 = .ok (.goto 10, 3) := by decide +kernel
theorem dX2_flyOn_129 : decode cX2_flyOn 129 = .ok (.iload 6, 2) := by decide +kernel
theorem dX2_flyOn_131 : decode cX2_flyOn 131 = .ok (.invokestatic 70, 3) := by decide +kernel
theorem dX2_flyOn_134 : decode cX2_flyOn 134 = .ok (.invokevirtual 57, 3) := by decide +kernel
theorem dX2_flyOn_142 : decode cX2_flyOn 142 = .ok (.iconst 1, 1) := by decide +kernel
theorem dX2_flyOn_141 : decode cX2_flyOn 141 = .ok (.iload_n 1, 1) := by decide +kernel
theorem dX2_flyOn_140 : decode cX2_flyOn 140 = .ok (.aload_n 2, 1) := by decide +kernel
theorem dX2_flyOn_139 : decode cX2_flyOn 139 = .ok (.iconst 1, 1) := by decide +kernel
theorem dX2_flyOn_138 : decode cX2_flyOn 138 = .ok (.iload_n 1, 1) := by decide +kernel
theorem dX2_flyOn_137 : decode cX2_flyOn 137 = .ok (.aload_n 2, 1) := by decide +kernel
theorem dX2_flyOn_143 : decode cX2_flyOn 143 = .ok (.invokevirtual 47, 3) := by decide +kernel
theorem dX2_flyOn_146 : decode cX2_flyOn 146 = .ok (.iload 5, 2) := by decide +kernel
theorem dX2_flyOn_148 : decode cX2_flyOn 148 = .ok (.invokestatic 73, 3) := by decide +kernel
theorem dX2_flyOn_151 : decode cX2_flyOn 151 = .ok (.invokevirtual 57, 3) := by decide +kernel
theorem dX2_flyOn_156 : decode cX2_flyOn 156 = .ok (.ifCond .lt 10, 3) := by decide +kernel
theorem dX2_flyOn_154 : decode cX2_flyOn 154 = .ok (.iload 4, 2) := by decide +kernel
theorem dX2_flyOn_168 : decode cX2_flyOn 168 = .ok (.bipush 9, 2) := by decide +kernel
theorem dX2_flyOn_167 : decode cX2_flyOn 167 = .ok (.iload_n 1, 1) := by decide +kernel
theorem dX2_flyOn_166 : decode cX2_flyOn 166 = .ok (.aload_n 2, 1) := by decide +kernel
theorem dX2_flyOn_170 : decode cX2_flyOn 170 = .ok (.invokevirtual 47, 3) := by decide +kernel
theorem dX2_flyOn_161 : decode cX2_flyOn 161 = .ok (.iload 4, 2) := by decide +kernel
theorem dX2_flyOn_160 : decode cX2_flyOn 160 = .ok (.iload_n 1, 1) := by decide +kernel
theorem dX2_flyOn_159 : decode cX2_flyOn 159 = .ok (.aload_n 0, 1) := by decide +kernel
theorem dX2_flyOn_163 : decode cX2_flyOn 163 = .ok (.invokestatic 76, 3) := by decide +kernel
theorem dX2_flyOn_173 : decode cX2_flyOn 173 = .ok (.ifCond .ge 8, 3) := by decide +kernel
theorem dX2_flyOn_181 : decode cX2_flyOn 181 = .ok (.return_, 1) := by decide +kernel
theorem dX2_flyOn_177 : decode cX2_flyOn 177 = .ok (.iload_n 1, 1) := by decide +kernel
theorem dX2_flyOn_176 : decode cX2_flyOn 176 = .ok (.aload_n 0, 1) := by decide +kernel
theorem dX2_flyOn_178 : decode cX2_flyOn 178 = .ok (.invokestatic 80, 3) := by decide +kernel
theorem dX2_fieldOf_0 : decode cX2_fieldOf 0 = .ok (.aload_n 0, 1) := by decide +kernel
theorem dX2_fieldOf_1 : decode cX2_fieldOf 1 = .ok (.getfield 83, 3) := by decide +kernel
theorem dX2_fieldOf_4 : decode cX2_fieldOf 4 = .ok (.aload_n 0, 1) := by decide +kernel
theorem dX2_fieldOf_5 : decode cX2_fieldOf 5 = .ok (.getfield 15, 3) := by decide +kernel
theorem dX2_fieldOf_9 : decode cX2_fieldOf 9 = .ok (.bipush 11, 2) := by decide +kernel
theorem dX2_fieldOf_8 : decode cX2_fieldOf 8 = .ok (.iload_n 1, 1) := by decide +kernel
theorem dX2_fieldOf_11 : decode cX2_fieldOf 11 = .ok (.invokevirtual 47, 3) := by decide +kernel
theorem dX2_fieldOf_14 : decode cX2_fieldOf 14 = .ok (.iconst 0, 1) := by decide +kernel
theorem dX2_fieldOf_15 : decode cX2_fieldOf 15 = .ok (.invokevirtual 47, 3) := by decide +kernel
theorem dX2_fieldOf_18 : decode cX2_fieldOf 18 = .ok (.ireturn, 1) := by decide +kernel
theorem dX2_meet_0 : decode cX2_meet 0 = .ok (.aload_n 0, 1) := by decide +kernel
theorem dX2_meet_1 : decode cX2_meet 1 = .ok (.getfield 15, 3) := by decide +kernel
theorem dX2_meet_7 : decode cX2_meet 7 = .ok (.iconst 1, 1) := by decide +kernel
theorem dX2_meet_6 : decode cX2_meet 6 = .ok (.iload_n 1, 1) := by decide +kernel
theorem dX2_meet_5 : decode cX2_meet 5 = .ok (.aload_n 3, 1) := by decide +kernel
theorem dX2_meet_4 : decode cX2_meet 4 = .ok (.astore_n 3, 1) := by decide +kernel
theorem dX2_meet_8 : decode cX2_meet 8 = .ok (.invokevirtual 47, 3) := by decide +kernel
theorem dX2_meet_13 : decode cX2_meet 13 = .ok (.iconst 2, 1) := by decide +kernel
theorem dX2_meet_12 : decode cX2_meet 12 = .ok (.iload_n 1, 1) := by decide +kernel
theorem dX2_meet_11 : decode cX2_meet 11 = .ok (.aload_n 3, 1) := by decide +kernel
theorem dX2_meet_14 : decode cX2_meet 14 = .ok (.invokevirtual 47, 3) := by decide +kernel
theorem dX2_meet_19 : decode cX2_meet 19 = .ok (.iconst 1, 1) := by decide +kernel
theorem dX2_meet_18 : decode cX2_meet 18 = .ok (.iload_n 2, 1) := by decide +kernel
theorem dX2_meet_17 : decode cX2_meet 17 = .ok (.aload_n 3, 1) := by decide +kernel
theorem dX2_meet_20 : decode cX2_meet 20 = .ok (.invokevirtual 47, 3) := by decide +kernel
theorem dX2_meet_25 : decode cX2_meet 25 = .ok (.iconst 2, 1) := by decide +kernel
theorem dX2_meet_24 : decode cX2_meet 24 = .ok (.iload_n 2, 1) := by decide +kernel
theorem dX2_meet_23 : decode cX2_meet 23 = .ok (.aload_n 3, 1) := by decide +kernel
theorem dX2_meet_26 : decode cX2_meet 26 = .ok (.invokevirtual 47, 3) := by decide +kernel
theorem dX2_meet_29 : decode cX2_meet 29 = .ok (.invokestatic 86, 3) := by decide +kernel
theorem dX2_meet_32 : decode cX2_meet 32 = .ok (.ifCond .ne 4, 3) := by decide +kernel
theorem dX2_meet_35 : decode cX2_meet 35 = .ok (.return_, 1) := by decide +kernel
theorem dX2_meet_38 : decode cX2_meet 38 = .ok (.bipush 8, 2) := by decide +kernel
theorem dX2_meet_37 : decode cX2_meet 37 = .ok (.iload_n 1, 1) := by decide +kernel
theorem dX2_meet_36 : decode cX2_meet 36 = .ok (.aload_n 3, 1) := by decide +kernel
theorem dX2_meet_40 : decode cX2_meet 40 = .ok (.invokevirtual 47, 3) := by decide +kernel
theorem dX2_meet_47 : decode cX2_meet 47 = .ok (.iconst 5, 1) := by decide +kernel
theorem dX2_meet_46 : decode cX2_meet 46 = .ok (.iload_n 2, 1) := by decide +kernel
theorem dX2_meet_45 : decode cX2_meet 45 = .ok (.aload_n 3, 1) := by decide +kernel
theorem dX2_meet_43 : decode cX2_meet 43 = .ok (.istore 4, 2) := by decide +kernel
theorem dX2_meet_48 : decode cX2_meet 48 = .ok (.invokevirtual 47, 3) := by decide +kernel
theorem dX2_meet_55 : decode cX2_meet 55 = .ok (.iload 5, 2) := by decide +kernel
theorem dX2_meet_53 : decode cX2_meet 53 = .ok (.iload 4, 2) := by decide +kernel
theorem dX2_meet_51 : decode cX2_meet 51 = .ok (.istore 5, 2) := by decide +kernel
theorem dX2_meet_57 : decode cX2_meet 57 = .ok (.invokestatic 90, 3) := by decide +kernel
theorem dX2_meet_70 : decode cX2_meet 70 = .ok (.isub, 1) := by decide +kernel
theorem dX2_meet_68 : decode cX2_meet 68 = .ok (.iload 6, 2) := by decide +kernel
theorem dX2_meet_66 : decode cX2_meet 66 = .ok (.iload 4, 2) := by decide +kernel
theorem dX2_meet_64 : decode cX2_meet 64 = .ok (.bipush 8, 2) := by decide +kernel
theorem dX2_meet_63 : decode cX2_meet 63 = .ok (.iload_n 1, 1) := by decide +kernel
theorem dX2_meet_62 : decode cX2_meet 62 = .ok (.aload_n 3, 1) := by decide +kernel
theorem dX2_meet_60 : decode cX2_meet 60 = .ok (.istore 6, 2) := by decide +kernel
theorem dX2_meet_71 : decode cX2_meet 71 = .ok (.invokevirtual 57, 3) := by decide +kernel
theorem dX2_meet_81 : decode cX2_meet 81 = .ok (.isub, 1) := by decide +kernel
theorem dX2_meet_79 : decode cX2_meet 79 = .ok (.iload 6, 2) := by decide +kernel
theorem dX2_meet_77 : decode cX2_meet 77 = .ok (.iload 5, 2) := by decide +kernel
theorem dX2_meet_76 : decode cX2_meet 76 = .ok (.iconst 5, 1) := by decide +kernel
theorem dX2_meet_75 : decode cX2_meet 75 = .ok (.iload_n 2, 1) := by decide +kernel
theorem dX2_meet_74 : decode cX2_meet 74 = .ok (.aload_n 3, 1) := by decide +kernel
theorem dX2_meet_82 : decode cX2_meet 82 = .ok (.invokevirtual 57, 3) := by decide +kernel
theorem dX2_meet_89 : decode cX2_meet 89 = .ok (.if_icmp .ne 11, 3) := by decide +kernel
theorem dX2_meet_87 : decode cX2_meet 87 = .ok (.iload 6, 2) := by decide +kernel
theorem dX2_meet_85 : decode cX2_meet 85 = .ok (.iload 5, 2) := by decide +kernel
theorem dX2_meet_96 : decode cX2_meet 96 = .ok (.iconst 2, 1) := by decide +kernel
theorem dX2_meet_94 : decode cX2_meet 94 = .ok (.bipush 6, 2) := by decide +kernel
theorem dX2_meet_93 : decode cX2_meet 93 = .ok (.iload_n 2, 1) := by decide +kernel
theorem dX2_meet_92 : decode cX2_meet 92 = .ok (.aload_n 3, 1) := by decide +kernel
theorem dX2_meet_97 : decode cX2_meet 97 = .ok (.invokevirtual 57, 3) := by decide +kernel
theorem dX2_meet_104 : decode cX2_meet 104 = .ok (.if_icmp .ne 11, 3) := by decide +kernel
theorem dX2_meet_102 : decode cX2_meet 102 = .ok (.iload 6, 2) := by decide +kernel
theorem dX2_meet_100 : decode cX2_meet 100 = .ok (.iload 4, 2) := by decide +kernel
theorem dX2_meet_111 : decode cX2_meet 111 = .ok (.iconst (-1), 1) := by decide +kernel
theorem dX2_meet_109 : decode cX2_meet 109 = .ok (.bipush 9, 2) := by decide +kernel
theorem dX2_meet_108 : decode cX2_meet 108 = .ok (.iload_n 1, 1) := by decide +kernel
theorem dX2_meet_107 : decode cX2_meet 107 = .ok (.aload_n 3, 1) := by decide +kernel
theorem dX2_meet_112 : decode cX2_meet 112 = .ok (.invokevirtual 57, 3) := by decide +kernel
theorem dX2_meet_115 : decode cX2_meet 115 = .ok (.return_, 1) := by decide +kernel
theorem dX2_land_0 : decode cX2_land 0 = .ok (.aload_n 0, 1) := by decide +kernel
theorem dX2_land_1 : decode cX2_land 1 = .ok (.getfield 15, 3) := by decide +kernel
theorem dX2_land_5 : decode cX2_land 5 = .ok (.iconst 1, 1) := by decide +kernel
theorem dX2_land_4 : decode cX2_land 4 = .ok (.iload_n 1, 1) := by decide +kernel
theorem dX2_land_6 : decode cX2_land 6 = .ok (.invokevirtual 47, 3) := by decide +kernel
theorem dX2_land_10 : decode cX2_land 10 = .ok (.iload_n 1, 1) := by decide +kernel
theorem dX2_land_9 : decode cX2_land 9 = .ok (.aload_n 0, 1) := by decide +kernel
theorem dX2_land_11 : decode cX2_land 11 = .ok (.invokestatic 66, 3) := by decide +kernel
theorem dX2_land_14 : decode cX2_land 14 = .ok (.if_icmp .ne 24, 3) := by decide +kernel
theorem dX2_land_17 : decode cX2_land 17 = .ok (.aload_n 0, 1) := by decide +kernel
theorem dX2_land_18 : decode cX2_land 18 = .ok (.getfield 15, 3) := by decide +kernel
theorem dX2_land_24 : decode cX2_land 24 = .ok (.iconst 1, 1) := by decide +kernel
theorem dX2_land_22 : decode cX2_land 22 = .ok (.bipush 6, 2) := by decide +kernel
theorem dX2_land_21 : decode cX2_land 21 = .ok (.iload_n 1, 1) := by decide +kernel
theorem dX2_land_25 : decode cX2_land 25 = .ok (.invokevirtual 57, 3) := by decide +kernel
theorem dX2_land_38 : decode cX2_land 38 = .ok (.return_, 1) := by decide +kernel
theorem dX2_land_28 : decode cX2_land 28 = .ok (.aload_n 0, 1) := by decide +kernel
theorem dX2_land_29 : decode cX2_land 29 = .ok (.getfield 15, 3) := by decide +kernel
theorem dX2_land_34 : decode cX2_land 34 = .ok (.iconst 0, 1) := by decide +kernel
theorem dX2_land_33 : decode cX2_land 33 = .ok (.iconst 2, 1) := by decide +kernel
theorem dX2_land_32 : decode cX2_land 32 = .ok (.iload_n 1, 1) := by decide +kernel
theorem dX2_land_35 : decode cX2_land 35 = .ok (.invokevirtual 57, 3) := by decide +kernel
theorem dX2_sound_1 : decode cX2_sound 1 = .ok (.iload_n 1, 1) := by decide +kernel
theorem dX2_sound_0 : decode cX2_sound 0 = .ok (.aload_n 0, 1) := by decide +kernel
theorem dX2_sound_2 : decode cX2_sound 2 = .ok (.invokevirtual 93, 3) := by decide +kernel
theorem dX2_sound_7 : decode cX2_sound 7 = .ok (.ifCond .eq 7, 3) := by decide +kernel
theorem dX2_sound_6 : decode cX2_sound 6 = .ok (.iload_n 2, 1) := by decide +kernel
theorem dX2_sound_5 : decode cX2_sound 5 = .ok (.istore_n 2, 1) := by decide +kernel
theorem dX2_sound_17 : decode cX2_sound 17 = .ok (.ifCond .eq 7, 3) := by decide +kernel
theorem dX2_sound_16 : decode cX2_sound 16 = .ok (.iload_n 2, 1) := by decide +kernel
theorem dX2_sound_15 : decode cX2_sound 15 = .ok (.istore_n 3, 1) := by decide +kernel
theorem dX2_sound_14 : decode cX2_sound 14 = .ok (.iconst 3, 1) := by decide +kernel
theorem dX2_sound_25 : decode cX2_sound 25 = .ok (.aload_n 0, 1) := by decide +kernel
theorem dX2_sound_24 : decode cX2_sound 24 = .ok (.aload_n 0, 1) := by decide +kernel
theorem dX2_sound_26 : decode cX2_sound 26 = .ok (.getfield 41, 3) := by decide +kernel
theorem dX2_sound_30 : decode cX2_sound 30 = .ok (.iconst 0, 1) := by decide +kernel
theorem dX2_sound_29 : decode cX2_sound 29 = .ok (.iload_n 1, 1) := by decide +kernel
theorem dX2_sound_31 : decode cX2_sound 31 = .ok (.invokevirtual 47, 3) := by decide +kernel
theorem dX2_sound_21 : decode cX2_sound 21 = .ok (.goto 16, 3) := by decide +kernel
theorem dX2_sound_20 : decode cX2_sound 20 = .ok (.iconst 1, 1) := by decide +kernel
theorem dX2_sound_39 : decode cX2_sound 39 = .ok (.aload_n 0, 1) := by decide +kernel
theorem dX2_sound_37 : decode cX2_sound 37 = .ok (.istore 4, 2) := by decide +kernel
theorem dX2_sound_40 : decode cX2_sound 40 = .ok (.getfield 41, 3) := by decide +kernel
theorem dX2_sound_46 : decode cX2_sound 46 = .ok (.ifCond .eq 7, 3) := by decide +kernel
theorem dX2_sound_45 : decode cX2_sound 45 = .ok (.iload_n 2, 1) := by decide +kernel
theorem dX2_sound_44 : decode cX2_sound 44 = .ok (.iconst 1, 1) := by decide +kernel
theorem dX2_sound_43 : decode cX2_sound 43 = .ok (.iload_n 1, 1) := by decide +kernel
theorem dX2_sound_53 : decode cX2_sound 53 = .ok (.iconst 0, 1) := by decide +kernel
theorem dX2_sound_54 : decode cX2_sound 54 = .ok (.invokevirtual 57, 3) := by decide +kernel
theorem dX2_sound_50 : decode cX2_sound 50 = .ok (.goto 4, 3) := by decide +kernel
theorem dX2_sound_49 : decode cX2_sound 49 = .ok (.iconst 1, 1) := by decide +kernel
theorem dX2_sound_11 : decode cX2_sound 11 = .ok (.goto 4, 3) := by decide +kernel
theorem dX2_sound_10 : decode cX2_sound 10 = .ok (.iconst 2, 1) := by decide +kernel
theorem dX2_sound_34 : decode cX2_sound 34 = .ok (.invokestatic 97, 3) := by decide +kernel
theorem dX2_sound_57 : decode cX2_sound 57 = .ok (.aload_n 0, 1) := by decide +kernel
theorem dX2_sound_58 : decode cX2_sound 58 = .ok (.getfield 41, 3) := by decide +kernel
theorem dX2_sound_63 : decode cX2_sound 63 = .ok (.aload_n 0, 1) := by decide +kernel
theorem dX2_sound_62 : decode cX2_sound 62 = .ok (.iload_n 3, 1) := by decide +kernel
theorem dX2_sound_61 : decode cX2_sound 61 = .ok (.iload_n 1, 1) := by decide +kernel
theorem dX2_sound_64 : decode cX2_sound 64 = .ok (.getfield 41, 3) := by decide +kernel
theorem dX2_sound_68 : decode cX2_sound 68 = .ok (.iload_n 3, 1) := by decide +kernel
theorem dX2_sound_67 : decode cX2_sound 67 = .ok (.iload_n 1, 1) := by decide +kernel
theorem dX2_sound_69 : decode cX2_sound 69 = .ok (.invokevirtual 47, 3) := by decide +kernel
theorem dX2_sound_74 : decode cX2_sound 74 = .ok (.iadd, 1) := by decide +kernel
theorem dX2_sound_72 : decode cX2_sound 72 = .ok (.iload 4, 2) := by decide +kernel
theorem dX2_sound_75 : decode cX2_sound 75 = .ok (.invokevirtual 57, 3) := by decide +kernel
theorem dX2_sound_78 : decode cX2_sound 78 = .ok (.return_, 1) := by decide +kernel
theorem dX2_hits_3 : decode cX2_hits 3 = .ok (.istore_n 3, 1) := by decide +kernel
theorem dX2_hits_2 : decode cX2_hits 2 = .ok (.iconst 0, 1) := by decide +kernel
theorem dX2_hits_1 : decode cX2_hits 1 = .ok (.istore_n 2, 1) := by decide +kernel
theorem dX2_hits_0 : decode cX2_hits 0 = .ok (.iconst 0, 1) := by decide +kernel
theorem dX2_hits_5 : decode cX2_hits 5 = .ok (.aload_n 0, 1) := by decide +kernel
theorem dX2_hits_4 : decode cX2_hits 4 = .ok (.iload_n 3, 1) := by decide +kernel
theorem dX2_hits_6 : decode cX2_hits 6 = .ok (.getfield 15, 3) := by decide +kernel
theorem dX2_hits_9 : decode cX2_hits 9 = .ok (.invokevirtual 19, 3) := by decide +kernel
theorem dX2_hits_12 : decode cX2_hits 12 = .ok (.if_icmp .ge 65, 3) := by decide +kernel
theorem dX2_hits_77 : decode cX2_hits 77 = .ok (.iload_n 2, 1) := by decide +kernel
theorem dX2_hits_78 : decode cX2_hits 78 = .ok (.ireturn, 1) := by decide +kernel
theorem dX2_hits_17 : decode cX2_hits 17 = .ok (.iconst 1, 1) := by decide +kernel
theorem dX2_hits_16 : decode cX2_hits 16 = .ok (.iload_n 3, 1) := by decide +kernel
theorem dX2_hits_15 : decode cX2_hits 15 = .ok (.aload_n 0, 1) := by decide +kernel
theorem dX2_hits_18 : decode cX2_hits 18 = .ok (.invokevirtual 29, 3) := by decide +kernel
theorem dX2_hits_21 : decode cX2_hits 21 = .ok (.ifCond .eq 50, 3) := by decide +kernel
theorem dX2_hits_74 : decode cX2_hits 74 = .ok (.goto (-70), 3) := by decide +kernel
theorem dX2_hits_71 : decode cX2_hits 71 = .ok (.iinc 3 1, 3) := by decide +kernel
theorem dX2_hits_26 : decode cX2_hits 26 = .ok (.iconst 0, 1) := by decide +kernel
theorem dX2_hits_25 : decode cX2_hits 25 = .ok (.iload_n 3, 1) := by decide +kernel
theorem dX2_hits_24 : decode cX2_hits 24 = .ok (.aload_n 0, 1) := by decide +kernel
theorem dX2_hits_27 : decode cX2_hits 27 = .ok (.invokevirtual 25, 3) := by decide +kernel
theorem dX2_hits_30 : decode cX2_hits 30 = .ok (.ifCond .eq 41, 3) := by decide +kernel
theorem dX2_hits_33 : decode cX2_hits 33 = .ok (.aload_n 0, 1) := by decide +kernel
theorem dX2_hits_34 : decode cX2_hits 34 = .ok (.getfield 15, 3) := by decide +kernel
theorem dX2_hits_38 : decode cX2_hits 38 = .ok (.iconst 1, 1) := by decide +kernel
theorem dX2_hits_37 : decode cX2_hits 37 = .ok (.iload_n 3, 1) := by decide +kernel
theorem dX2_hits_39 : decode cX2_hits 39 = .ok (.invokevirtual 47, 3) := by decide +kernel
theorem dX2_hits_43 : decode cX2_hits 43 = .ok (.if_icmp .ne 28, 3) := by decide +kernel
theorem dX2_hits_42 : decode cX2_hits 42 = .ok (.iload_n 1, 1) := by decide +kernel
theorem dX2_hits_49 : decode cX2_hits 49 = .ok (.iconst 2, 1) := by decide +kernel
theorem dX2_hits_48 : decode cX2_hits 48 = .ok (.iload_n 3, 1) := by decide +kernel
theorem dX2_hits_47 : decode cX2_hits 47 = .ok (.aload_n 0, 1) := by decide +kernel
theorem dX2_hits_46 : decode cX2_hits 46 = .ok (.iload_n 2, 1) := by decide +kernel
theorem dX2_hits_50 : decode cX2_hits 50 = .ok (.invokevirtual 29, 3) := by decide +kernel
theorem dX2_hits_53 : decode cX2_hits 53 = .ok (.ifCond .eq 7, 3) := by decide +kernel
theorem dX2_hits_60 : decode cX2_hits 60 = .ok (.aload_n 0, 1) := by decide +kernel
theorem dX2_hits_61 : decode cX2_hits 61 = .ok (.getfield 15, 3) := by decide +kernel
theorem dX2_hits_65 : decode cX2_hits 65 = .ok (.iconst 5, 1) := by decide +kernel
theorem dX2_hits_64 : decode cX2_hits 64 = .ok (.iload_n 3, 1) := by decide +kernel
theorem dX2_hits_66 : decode cX2_hits 66 = .ok (.invokevirtual 47, 3) := by decide +kernel
theorem dX2_hits_57 : decode cX2_hits 57 = .ok (.goto 12, 3) := by decide +kernel
theorem dX2_hits_56 : decode cX2_hits 56 = .ok (.iconst 1, 1) := by decide +kernel
theorem dX2_hits_70 : decode cX2_hits 70 = .ok (.istore_n 2, 1) := by decide +kernel
theorem dX2_hits_69 : decode cX2_hits 69 = .ok (.iadd, 1) := by decide +kernel
theorem dX5_copyFrom_0 : decode cX5_copyFrom 0 = .ok (.aload_n 0, 1) := by decide +kernel
theorem dX5_copyFrom_1 : decode cX5_copyFrom 1 = .ok (.getfield 14, 3) := by decide +kernel
theorem dX5_copyFrom_4 : decode cX5_copyFrom 4 = .ok (.aload_n 1, 1) := by decide +kernel
theorem dX5_copyFrom_5 : decode cX5_copyFrom 5 = .ok (.getfield 14, 3) := by decide +kernel
theorem dX5_copyFrom_8 : decode cX5_copyFrom 8 = .ok (.invokevirtual 28, 3) := by decide +kernel
theorem dX5_copyFrom_11 : decode cX5_copyFrom 11 = .ok (.aload_n 0, 1) := by decide +kernel
theorem dX5_copyFrom_12 : decode cX5_copyFrom 12 = .ok (.getfield 18, 3) := by decide +kernel
theorem dX5_copyFrom_15 : decode cX5_copyFrom 15 = .ok (.aload_n 1, 1) := by decide +kernel
theorem dX5_copyFrom_16 : decode cX5_copyFrom 16 = .ok (.getfield 18, 3) := by decide +kernel
theorem dX5_copyFrom_19 : decode cX5_copyFrom 19 = .ok (.invokevirtual 28, 3) := by decide +kernel
theorem dX5_copyFrom_22 : decode cX5_copyFrom 22 = .ok (.return_, 1) := by decide +kernel
theorem dX5_make_0 : decode cX5_make 0 = .ok (.aload_n 0, 1) := by decide +kernel
theorem dX5_make_1 : decode cX5_make 1 = .ok (.getfield 14, 3) := by decide +kernel
theorem dX5_make_4 : decode cX5_make 4 = .ok (.iload_n 1, 1) := by decide +kernel
theorem dX5_make_5 : decode cX5_make 5 = .ok (.invokevirtual 32, 3) := by decide +kernel
theorem dX5_make_10 : decode cX5_make 10 = .ok (.aload_n 0, 1) := by decide +kernel
theorem dX5_make_8 : decode cX5_make 8 = .ok (.istore 4, 2) := by decide +kernel
theorem dX5_make_11 : decode cX5_make 11 = .ok (.getfield 14, 3) := by decide +kernel
theorem dX5_make_17 : decode cX5_make 17 = .ok (.iload_n 2, 1) := by decide +kernel
theorem dX5_make_16 : decode cX5_make 16 = .ok (.iconst 1, 1) := by decide +kernel
theorem dX5_make_14 : decode cX5_make 14 = .ok (.iload 4, 2) := by decide +kernel
theorem dX5_make_18 : decode cX5_make 18 = .ok (.invokevirtual 36, 3) := by decide +kernel
theorem dX5_make_21 : decode cX5_make 21 = .ok (.aload_n 0, 1) := by decide +kernel
theorem dX5_make_22 : decode cX5_make 22 = .ok (.getfield 14, 3) := by decide +kernel
theorem dX5_make_28 : decode cX5_make 28 = .ok (.aload_n 3, 1) := by decide +kernel
theorem dX5_make_27 : decode cX5_make 27 = .ok (.iconst 2, 1) := by decide +kernel
theorem dX5_make_25 : decode cX5_make 25 = .ok (.iload 4, 2) := by decide +kernel
theorem dX5_make_29 : decode cX5_make 29 = .ok (.invokevirtual 40, 3) := by decide +kernel
theorem dX5_make_32 : decode cX5_make 32 = .ok (.invokevirtual 36, 3) := by decide +kernel
theorem dX5_make_36 : decode cX5_make 36 = .ok (.istore 5, 2) := by decide +kernel
theorem dX5_make_35 : decode cX5_make 35 = .ok (.iconst 0, 1) := by decide +kernel
theorem dX5_make_40 : decode cX5_make 40 = .ok (.aload_n 3, 1) := by decide +kernel
theorem dX5_make_38 : decode cX5_make 38 = .ok (.iload 5, 2) := by decide +kernel
theorem dX5_make_41 : decode cX5_make 41 = .ok (.invokevirtual 40, 3) := by decide +kernel
theorem dX5_make_44 : decode cX5_make 44 = .ok (.if_icmp .ge 28, 3) := by decide +kernel
theorem dX5_make_72 : decode cX5_make 72 = .ok (.iload 4, 2) := by decide +kernel
theorem dX5_make_74 : decode cX5_make 74 = .ok (.ireturn, 1) := by decide +kernel
theorem dX5_make_47 : decode cX5_make 47 = .ok (.aload_n 0, 1) := by decide +kernel
theorem dX5_make_48 : decode cX5_make 48 = .ok (.getfield 14, 3) := by decide +kernel
theorem dX5_make_58 : decode cX5_make 58 = .ok (.iload 5, 2) := by decide +kernel
theorem dX5_make_57 : decode cX5_make 57 = .ok (.aload_n 3, 1) := by decide +kernel
theorem dX5_make_56 : decode cX5_make 56 = .ok (.iadd, 1) := by decide +kernel
theorem dX5_make_54 : decode cX5_make 54 = .ok (.iload 5, 2) := by decide +kernel
theorem dX5_make_53 : decode cX5_make 53 = .ok (.iconst 3, 1) := by decide +kernel
theorem dX5_make_51 : decode cX5_make 51 = .ok (.iload 4, 2) := by decide +kernel
theorem dX5_make_60 : decode cX5_make 60 = .ok (.invokevirtual 46, 3) := by decide +kernel
theorem dX5_make_63 : decode cX5_make 63 = .ok (.invokevirtual 36, 3) := by decide +kernel
theorem dX5_make_69 : decode cX5_make 69 = .ok (.goto (-31), 3) := by decide +kernel
theorem dX5_make_66 : decode cX5_make 66 = .ok (.iinc 5 1, 3) := by decide +kernel
theorem dX5_inForce_0 : decode cX5_inForce 0 = .ok (.aload_n 0, 1) := by decide +kernel
theorem dX5_inForce_1 : decode cX5_inForce 1 = .ok (.getfield 14, 3) := by decide +kernel
theorem dX5_inForce_4 : decode cX5_inForce 4 = .ok (.invokevirtual 49, 3) := by decide +kernel
theorem dX5_inForce_9 : decode cX5_inForce 9 = .ok (.istore_n 3, 1) := by decide +kernel
theorem dX5_inForce_8 : decode cX5_inForce 8 = .ok (.isub, 1) := by decide +kernel
theorem dX5_inForce_7 : decode cX5_inForce 7 = .ok (.iconst 1, 1) := by decide +kernel
theorem dX5_inForce_11 : decode cX5_inForce 11 = .ok (.ifCond .lt 37, 3) := by decide +kernel
theorem dX5_inForce_10 : decode cX5_inForce 10 = .ok (.iload_n 3, 1) := by decide +kernel
theorem dX5_inForce_48 : decode cX5_inForce 48 = .ok (.iconst (-1), 1) := by decide +kernel
theorem dX5_inForce_49 : decode cX5_inForce 49 = .ok (.ireturn, 1) := by decide +kernel
theorem dX5_inForce_14 : decode cX5_inForce 14 = .ok (.aload_n 0, 1) := by decide +kernel
theorem dX5_inForce_15 : decode cX5_inForce 15 = .ok (.getfield 14, 3) := by decide +kernel
theorem dX5_inForce_19 : decode cX5_inForce 19 = .ok (.iconst 0, 1) := by decide +kernel
theorem dX5_inForce_18 : decode cX5_inForce 18 = .ok (.iload_n 3, 1) := by decide +kernel
theorem dX5_inForce_20 : decode cX5_inForce 20 = .ok (.invokevirtual 50, 3) := by decide +kernel
theorem dX5_inForce_24 : decode cX5_inForce 24 = .ok (.if_icmp .ne 18, 3) := by decide +kernel
theorem dX5_inForce_23 : decode cX5_inForce 23 = .ok (.iload_n 1, 1) := by decide +kernel
theorem dX5_inForce_27 : decode cX5_inForce 27 = .ok (.aload_n 0, 1) := by decide +kernel
theorem dX5_inForce_28 : decode cX5_inForce 28 = .ok (.getfield 14, 3) := by decide +kernel
theorem dX5_inForce_32 : decode cX5_inForce 32 = .ok (.iconst 1, 1) := by decide +kernel
theorem dX5_inForce_31 : decode cX5_inForce 31 = .ok (.iload_n 3, 1) := by decide +kernel
theorem dX5_inForce_33 : decode cX5_inForce 33 = .ok (.invokevirtual 50, 3) := by decide +kernel
theorem dX5_inForce_45 : decode cX5_inForce 45 = .ok (.goto (-35), 3) := by decide +kernel
theorem dX5_inForce_42 : decode cX5_inForce 42 = .ok (.iinc 3 (-1), 3) := by decide +kernel
theorem dX5_inForce_37 : decode cX5_inForce 37 = .ok (.if_icmp .gt 5, 3) := by decide +kernel
theorem dX5_inForce_36 : decode cX5_inForce 36 = .ok (.iload_n 2, 1) := by decide +kernel
theorem dX5_inForce_40 : decode cX5_inForce 40 = .ok (.iload_n 3, 1) := by decide +kernel
theorem dX5_inForce_41 : decode cX5_inForce 41 = .ok (.ireturn, 1) := by decide +kernel
theorem dX5_worth_0 : decode cX5_worth 0 = .ok (.aload_n 0, 1) := by decide +kernel
theorem dX5_worth_1 : decode cX5_worth 1 = .ok (.getfield 21, 3) := by decide +kernel
theorem dX5_worth_5 : decode cX5_worth 5 = .ok (.iload_n 2, 1) := by decide +kernel
theorem dX5_worth_4 : decode cX5_worth 4 = .ok (.iconst 0, 1) := by decide +kernel
theorem dX5_worth_6 : decode cX5_worth 6 = .ok (.iastore, 1) := by decide +kernel
theorem dX5_worth_7 : decode cX5_worth 7 = .ok (.aload_n 0, 1) := by decide +kernel
theorem dX5_worth_8 : decode cX5_worth 8 = .ok (.getfield 21, 3) := by decide +kernel
theorem dX5_worth_12 : decode cX5_worth 12 = .ok (.iload_n 3, 1) := by decide +kernel
theorem dX5_worth_11 : decode cX5_worth 11 = .ok (.iconst 1, 1) := by decide +kernel
theorem dX5_worth_13 : decode cX5_worth 13 = .ok (.iastore, 1) := by decide +kernel
theorem dX5_worth_14 : decode cX5_worth 14 = .ok (.aload_n 0, 1) := by decide +kernel
theorem dX5_worth_15 : decode cX5_worth 15 = .ok (.getfield 21, 3) := by decide +kernel
theorem dX5_worth_19 : decode cX5_worth 19 = .ok (.iload 4, 2) := by decide +kernel
theorem dX5_worth_18 : decode cX5_worth 18 = .ok (.iconst 2, 1) := by decide +kernel
theorem dX5_worth_21 : decode cX5_worth 21 = .ok (.iastore, 1) := by decide +kernel
theorem dX5_worth_22 : decode cX5_worth 22 = .ok (.aload_n 0, 1) := by decide +kernel
theorem dX5_worth_23 : decode cX5_worth 23 = .ok (.getfield 21, 3) := by decide +kernel
theorem dX5_worth_27 : decode cX5_worth 27 = .ok (.iload 5, 2) := by decide +kernel
theorem dX5_worth_26 : decode cX5_worth 26 = .ok (.iconst 3, 1) := by decide +kernel
theorem dX5_worth_29 : decode cX5_worth 29 = .ok (.iastore, 1) := by decide +kernel
theorem dX5_worth_33 : decode cX5_worth 33 = .ok (.aload_n 0, 1) := by decide +kernel
theorem dX5_worth_31 : decode cX5_worth 31 = .ok (.istore 6, 2) := by decide +kernel
theorem dX5_worth_30 : decode cX5_worth 30 = .ok (.iconst 0, 1) := by decide +kernel
theorem dX5_worth_34 : decode cX5_worth 34 = .ok (.getfield 14, 3) := by decide +kernel
theorem dX5_worth_38 : decode cX5_worth 38 = .ok (.iconst 2, 1) := by decide +kernel
theorem dX5_worth_37 : decode cX5_worth 37 = .ok (.iload_n 1, 1) := by decide +kernel
theorem dX5_worth_39 : decode cX5_worth 39 = .ok (.invokevirtual 50, 3) := by decide +kernel
theorem dX5_worth_42 : decode cX5_worth 42 = .ok (.bipush 50, 2) := by decide +kernel
theorem dX5_worth_44 : decode cX5_worth 44 = .ok (.invokestatic 54, 3) := by decide +kernel
theorem dX5_worth_50 : decode cX5_worth 50 = .ok (.istore 8, 2) := by decide +kernel
theorem dX5_worth_49 : decode cX5_worth 49 = .ok (.iconst 0, 1) := by decide +kernel
theorem dX5_worth_47 : decode cX5_worth 47 = .ok (.istore 7, 2) := by decide +kernel
theorem dX5_worth_56 : decode cX5_worth 56 = .ok (.if_icmp .ge 29, 3) := by decide +kernel
theorem dX5_worth_54 : decode cX5_worth 54 = .ok (.iload 7, 2) := by decide +kernel
theorem dX5_worth_52 : decode cX5_worth 52 = .ok (.iload 8, 2) := by decide +kernel
theorem dX5_worth_89 : decode cX5_worth 89 = .ok (.isub, 1) := by decide +kernel
theorem dX5_worth_88 : decode cX5_worth 88 = .ok (.iconst 1, 1) := by decide +kernel
theorem dX5_worth_86 : decode cX5_worth 86 = .ok (.iload 6, 2) := by decide +kernel
theorem dX5_worth_85 : decode cX5_worth 85 = .ok (.aload_n 0, 1) := by decide +kernel
theorem dX5_worth_90 : decode cX5_worth 90 = .ok (.invokevirtual 62, 3) := by decide +kernel
theorem dX5_worth_60 : decode cX5_worth 60 = .ok (.aload_n 0, 1) := by decide +kernel
theorem dX5_worth_59 : decode cX5_worth 59 = .ok (.aload_n 0, 1) := by decide +kernel
theorem dX5_worth_61 : decode cX5_worth 61 = .ok (.getfield 14, 3) := by decide +kernel
theorem dX5_worth_68 : decode cX5_worth 68 = .ok (.iadd, 1) := by decide +kernel
theorem dX5_worth_66 : decode cX5_worth 66 = .ok (.iload 8, 2) := by decide +kernel
theorem dX5_worth_65 : decode cX5_worth 65 = .ok (.iconst 3, 1) := by decide +kernel
theorem dX5_worth_64 : decode cX5_worth 64 = .ok (.iload_n 1, 1) := by decide +kernel
theorem dX5_worth_69 : decode cX5_worth 69 = .ok (.invokevirtual 50, 3) := by decide +kernel
theorem dX5_worth_93 : decode cX5_worth 93 = .ok (.ireturn, 1) := by decide +kernel
theorem dX5_worth_72 : decode cX5_worth 72 = .ok (.iload 6, 2) := by decide +kernel
theorem dX5_worth_74 : decode cX5_worth 74 = .ok (.invokevirtual 59, 3) := by decide +kernel
theorem dX5_worth_82 : decode cX5_worth 82 = .ok (.goto (-30), 3) := by decide +kernel
theorem dX5_worth_79 : decode cX5_worth 79 = .ok (.iinc 8 1, 3) := by decide +kernel
theorem dX5_worth_77 : decode cX5_worth 77 = .ok (.istore 6, 2) := by decide +kernel
theorem dX5_apply_4 : decode cX5_apply 4 = .ok (.if_icmp .ge 10, 3) := by decide +kernel
theorem dX5_apply_1 : decode cX5_apply 1 = .ok (.sipush 1000, 3) := by decide +kernel
theorem dX5_apply_0 : decode cX5_apply 0 = .ok (.iload_n 1, 1) := by decide +kernel
theorem dX5_apply_18 : decode cX5_apply 18 = .ok (.if_icmp .ge 34, 3) := by decide +kernel
theorem dX5_apply_15 : decode cX5_apply 15 = .ok (.sipush 2000, 3) := by decide +kernel
theorem dX5_apply_14 : decode cX5_apply 14 = .ok (.iload_n 1, 1) := by decide +kernel
theorem dX5_apply_56 : decode cX5_apply 56 = .ok (.if_icmp .ne 26, 3) := by decide +kernel
theorem dX5_apply_53 : decode cX5_apply 53 = .ok (.sipush 2033, 3) := by decide +kernel
theorem dX5_apply_52 : decode cX5_apply 52 = .ok (.iload_n 1, 1) := by decide +kernel
theorem dX5_apply_66 : decode cX5_apply 66 = .ok (.isub, 1) := by decide +kernel
theorem dX5_apply_65 : decode cX5_apply 65 = .ok (.iconst 1, 1) := by decide +kernel
theorem dX5_apply_64 : decode cX5_apply 64 = .ok (.iload_n 2, 1) := by decide +kernel
theorem dX5_apply_63 : decode cX5_apply 63 = .ok (.aload_n 0, 1) := by decide +kernel
theorem dX5_apply_62 : decode cX5_apply 62 = .ok (.isub, 1) := by decide +kernel
theorem dX5_apply_61 : decode cX5_apply 61 = .ok (.iconst 1, 1) := by decide +kernel
theorem dX5_apply_60 : decode cX5_apply 60 = .ok (.iload_n 2, 1) := by decide +kernel
theorem dX5_apply_59 : decode cX5_apply 59 = .ok (.aload_n 0, 1) := by decide +kernel
theorem dX5_apply_67 : decode cX5_apply 67 = .ok (.invokevirtual 62, 3) := by decide +kernel
theorem dX5_apply_94 : decode cX5_apply 94 = .ok (.isub, 1) := by decide +kernel
theorem dX5_apply_93 : decode cX5_apply 93 = .ok (.iconst 2, 1) := by decide +kernel
theorem dX5_apply_92 : decode cX5_apply 92 = .ok (.iload_n 2, 1) := by decide +kernel
theorem dX5_apply_91 : decode cX5_apply 91 = .ok (.aload_n 0, 1) := by decide +kernel
theorem dX5_apply_90 : decode cX5_apply 90 = .ok (.isub, 1) := by decide +kernel
theorem dX5_apply_87 : decode cX5_apply 87 = .ok (.sipush 2000, 3) := by decide +kernel
theorem dX5_apply_86 : decode cX5_apply 86 = .ok (.iload_n 1, 1) := by decide +kernel
theorem dX5_apply_85 : decode cX5_apply 85 = .ok (.isub, 1) := by decide +kernel
theorem dX5_apply_84 : decode cX5_apply 84 = .ok (.iconst 2, 1) := by decide +kernel
theorem dX5_apply_83 : decode cX5_apply 83 = .ok (.iload_n 2, 1) := by decide +kernel
theorem dX5_apply_82 : decode cX5_apply 82 = .ok (.aload_n 0, 1) := by decide +kernel
theorem dX5_apply_95 : decode cX5_apply 95 = .ok (.invokevirtual 62, 3) := by decide +kernel
theorem dX5_apply_30 : decode cX5_apply 30 = .ok (.aload_n 0, 1) := by decide +kernel
theorem dX5_apply_29 : decode cX5_apply 29 = .ok (.iload_n 3, 1) := by decide +kernel
theorem dX5_apply_28 : decode cX5_apply 28 = .ok (.iload_n 2, 1) := by decide +kernel
theorem dX5_apply_27 : decode cX5_apply 27 = .ok (.aload_n 0, 1) := by decide +kernel
theorem dX5_apply_26 : decode cX5_apply 26 = .ok (.istore_n 3, 1) := by decide +kernel
theorem dX5_apply_25 : decode cX5_apply 25 = .ok (.isub, 1) := by decide +kernel
theorem dX5_apply_22 : decode cX5_apply 22 = .ok (.sipush 1000, 3) := by decide +kernel
theorem dX5_apply_21 : decode cX5_apply 21 = .ok (.iload_n 1, 1) := by decide +kernel
theorem dX5_apply_31 : decode cX5_apply 31 = .ok (.getfield 21, 3) := by decide +kernel
theorem dX5_apply_34 : decode cX5_apply 34 = .ok (.arraylength, 1) := by decide +kernel
theorem dX5_apply_35 : decode cX5_apply 35 = .ok (.if_icmp .ge 12, 3) := by decide +kernel
theorem dX5_apply_47 : decode cX5_apply 47 = .ok (.iconst 0, 1) := by decide +kernel
theorem dX5_apply_48 : decode cX5_apply 48 = .ok (.invokevirtual 65, 3) := by decide +kernel
theorem dX5_apply_38 : decode cX5_apply 38 = .ok (.aload_n 0, 1) := by decide +kernel
theorem dX5_apply_39 : decode cX5_apply 39 = .ok (.getfield 21, 3) := by decide +kernel
theorem dX5_apply_42 : decode cX5_apply 42 = .ok (.iload_n 3, 1) := by decide +kernel
theorem dX5_apply_43 : decode cX5_apply 43 = .ok (.iaload, 1) := by decide +kernel
theorem dX5_apply_44 : decode cX5_apply 44 = .ok (.goto 4, 3) := by decide +kernel
theorem dX5_apply_9 : decode cX5_apply 9 = .ok (.iload_n 1, 1) := by decide +kernel
theorem dX5_apply_8 : decode cX5_apply 8 = .ok (.iload_n 2, 1) := by decide +kernel
theorem dX5_apply_7 : decode cX5_apply 7 = .ok (.aload_n 0, 1) := by decide +kernel
theorem dX5_apply_10 : decode cX5_apply 10 = .ok (.invokevirtual 65, 3) := by decide +kernel
theorem dX5_apply_70 : decode cX5_apply 70 = .ok (.ifCond .ne 7, 3) := by decide +kernel
theorem dX5_apply_74 : decode cX5_apply 74 = .ok (.goto 4, 3) := by decide +kernel
theorem dX5_apply_73 : decode cX5_apply 73 = .ok (.iconst 1, 1) := by decide +kernel
theorem dX5_apply_78 : decode cX5_apply 78 = .ok (.invokevirtual 65, 3) := by decide +kernel
theorem dX5_apply_77 : decode cX5_apply 77 = .ok (.iconst 0, 1) := by decide +kernel
theorem dX5_apply_101 : decode cX5_apply 101 = .ok (.isub, 1) := by decide +kernel
theorem dX5_apply_100 : decode cX5_apply 100 = .ok (.iconst 1, 1) := by decide +kernel
theorem dX5_apply_99 : decode cX5_apply 99 = .ok (.iload_n 2, 1) := by decide +kernel
theorem dX5_apply_98 : decode cX5_apply 98 = .ok (.aload_n 0, 1) := by decide +kernel
theorem dX5_apply_102 : decode cX5_apply 102 = .ok (.invokevirtual 62, 3) := by decide +kernel
theorem dX5_apply_51 : decode cX5_apply 51 = .ok (.ireturn, 1) := by decide +kernel
theorem dX5_apply_13 : decode cX5_apply 13 = .ok (.ireturn, 1) := by decide +kernel
theorem dX5_apply_81 : decode cX5_apply 81 = .ok (.ireturn, 1) := by decide +kernel
theorem dX5_apply_105 : decode cX5_apply 105 = .ok (.invokestatic 68, 3) := by decide +kernel
theorem dX5_apply_108 : decode cX5_apply 108 = .ok (.invokevirtual 65, 3) := by decide +kernel
theorem dX5_apply_111 : decode cX5_apply 111 = .ok (.ireturn, 1) := by decide +kernel
theorem dX5_push_1 : decode cX5_push 1 = .ok (.ifCond .lt 12, 3) := by decide +kernel
theorem dX5_push_0 : decode cX5_push 0 = .ok (.iload_n 1, 1) := by decide +kernel
theorem dX5_push_13 : decode cX5_push 13 = .ok (.iload_n 1, 1) := by decide +kernel
theorem dX5_push_14 : decode cX5_push 14 = .ok (.ireturn, 1) := by decide +kernel
theorem dX5_push_5 : decode cX5_push 5 = .ok (.aload_n 0, 1) := by decide +kernel
theorem dX5_push_4 : decode cX5_push 4 = .ok (.iload_n 1, 1) := by decide +kernel
theorem dX5_push_6 : decode cX5_push 6 = .ok (.getfield 25, 3) := by decide +kernel
theorem dX5_push_9 : decode cX5_push 9 = .ok (.arraylength, 1) := by decide +kernel
theorem dX5_push_10 : decode cX5_push 10 = .ok (.if_icmp .lt 5, 3) := by decide +kernel
theorem dX5_push_15 : decode cX5_push 15 = .ok (.aload_n 0, 1) := by decide +kernel
theorem dX5_push_16 : decode cX5_push 16 = .ok (.getfield 25, 3) := by decide +kernel
theorem dX5_push_20 : decode cX5_push 20 = .ok (.iload_n 2, 1) := by decide +kernel
theorem dX5_push_19 : decode cX5_push 19 = .ok (.iload_n 1, 1) := by decide +kernel
theorem dX5_push_21 : decode cX5_push 21 = .ok (.iastore, 1) := by decide +kernel
theorem dX5_push_24 : decode cX5_push 24 = .ok (.iadd, 1) := by decide +kernel
theorem dX5_push_23 : decode cX5_push 23 = .ok (.iconst 1, 1) := by decide +kernel
theorem dX5_push_22 : decode cX5_push 22 = .ok (.iload_n 1, 1) := by decide +kernel
theorem dX5_push_25 : decode cX5_push 25 = .ok (.ireturn, 1) := by decide +kernel
theorem dX5_peek_1 : decode cX5_peek 1 = .ok (.ifCond .lt 21, 3) := by decide +kernel
theorem dX5_peek_0 : decode cX5_peek 0 = .ok (.iload_n 1, 1) := by decide +kernel
theorem dX5_peek_22 : decode cX5_peek 22 = .ok (.iconst 0, 1) := by decide +kernel
theorem dX5_peek_23 : decode cX5_peek 23 = .ok (.ireturn, 1) := by decide +kernel
theorem dX5_peek_5 : decode cX5_peek 5 = .ok (.aload_n 0, 1) := by decide +kernel
theorem dX5_peek_4 : decode cX5_peek 4 = .ok (.iload_n 1, 1) := by decide +kernel
theorem dX5_peek_6 : decode cX5_peek 6 = .ok (.getfield 25, 3) := by decide +kernel
theorem dX5_peek_9 : decode cX5_peek 9 = .ok (.arraylength, 1) := by decide +kernel
theorem dX5_peek_10 : decode cX5_peek 10 = .ok (.if_icmp .ge 12, 3) := by decide +kernel
theorem dX5_peek_13 : decode cX5_peek 13 = .ok (.aload_n 0, 1) := by decide +kernel
theorem dX5_peek_14 : decode cX5_peek 14 = .ok (.getfield 25, 3) := by decide +kernel
theorem dX5_peek_17 : decode cX5_peek 17 = .ok (.iload_n 1, 1) := by decide +kernel
theorem dX5_peek_18 : decode cX5_peek 18 = .ok (.iaload, 1) := by decide +kernel
theorem dX5_peek_19 : decode cX5_peek 19 = .ok (.goto 4, 3) := by decide +kernel
theorem dX5_joined_0 : decode cX5_joined 0 = .ok (.iload_n 0, 1) := by decide +kernel
theorem dX5_joined_1 : decode cX5_joined 1 = .ok (.lookupswitch 136 #[(38, 81), (43, 128), (45, 132), (60, 95), (61, 106), (62, 117), (124, 67)], 67) := by decide +kernel
theorem dX5_joined_83 : decode cX5_joined 83 = .ok (.ifCond .eq 11, 3) := by decide +kernel
theorem dX5_joined_82 : decode cX5_joined 82 = .ok (.iload_n 1, 1) := by decide +kernel
theorem dX5_joined_94 : decode cX5_joined 94 = .ok (.iconst 0, 1) := by decide +kernel
theorem dX5_joined_95 : decode cX5_joined 95 = .ok (.ireturn, 1) := by decide +kernel
theorem dX5_joined_87 : decode cX5_joined 87 = .ok (.ifCond .eq 7, 3) := by decide +kernel
theorem dX5_joined_86 : decode cX5_joined 86 = .ok (.iload_n 2, 1) := by decide +kernel
theorem dX5_joined_91 : decode cX5_joined 91 = .ok (.goto 4, 3) := by decide +kernel
theorem dX5_joined_90 : decode cX5_joined 90 = .ok (.iconst 1, 1) := by decide +kernel
theorem dX5_joined_131 : decode cX5_joined 131 = .ok (.iadd, 1) := by decide +kernel
theorem dX5_joined_130 : decode cX5_joined 130 = .ok (.iload_n 2, 1) := by decide +kernel
theorem dX5_joined_129 : decode cX5_joined 129 = .ok (.iload_n 1, 1) := by decide +kernel
theorem dX5_joined_132 : decode cX5_joined 132 = .ok (.ireturn, 1) := by decide +kernel
theorem dX5_joined_135 : decode cX5_joined 135 = .ok (.isub, 1) := by decide +kernel
theorem dX5_joined_134 : decode cX5_joined 134 = .ok (.iload_n 2, 1) := by decide +kernel
theorem dX5_joined_133 : decode cX5_joined 133 = .ok (.iload_n 1, 1) := by decide +kernel
theorem dX5_joined_136 : decode cX5_joined 136 = .ok (.ireturn, 1) := by decide +kernel
theorem dX5_joined_98 : decode cX5_joined 98 = .ok (.if_icmp .ge 7, 3) := by decide +kernel
theorem dX5_joined_97 : decode cX5_joined 97 = .ok (.iload_n 2, 1) := by decide +kernel
theorem dX5_joined_96 : decode cX5_joined 96 = .ok (.iload_n 1, 1) := by decide +kernel
theorem dX5_joined_105 : decode cX5_joined 105 = .ok (.iconst 0, 1) := by decide +kernel
theorem dX5_joined_106 : decode cX5_joined 106 = .ok (.ireturn, 1) := by decide +kernel
theorem dX5_joined_102 : decode cX5_joined 102 = .ok (.goto 4, 3) := by decide +kernel
theorem dX5_joined_101 : decode cX5_joined 101 = .ok (.iconst 1, 1) := by decide +kernel
theorem dX5_joined_109 : decode cX5_joined 109 = .ok (.if_icmp .ne 7, 3) := by decide +kernel
theorem dX5_joined_108 : decode cX5_joined 108 = .ok (.iload_n 2, 1) := by decide +kernel
theorem dX5_joined_107 : decode cX5_joined 107 = .ok (.iload_n 1, 1) := by decide +kernel
theorem dX5_joined_113 : decode cX5_joined 113 = .ok (.goto 4, 3) := by decide +kernel
theorem dX5_joined_112 : decode cX5_joined 112 = .ok (.iconst 1, 1) := by decide +kernel
theorem dX5_joined_117 : decode cX5_joined 117 = .ok (.ireturn, 1) := by decide +kernel
theorem dX5_joined_116 : decode cX5_joined 116 = .ok (.iconst 0, 1) := by decide +kernel
theorem dX5_joined_120 : decode cX5_joined 120 = .ok (.if_icmp .le 7, 3) := by decide +kernel
theorem dX5_joined_119 : decode cX5_joined 119 = .ok (.iload_n 2, 1) := by decide +kernel
theorem dX5_joined_118 : decode cX5_joined 118 = .ok (.iload_n 1, 1) := by decide +kernel
theorem dX5_joined_127 : decode cX5_joined 127 = .ok (.iconst 0, 1) := by decide +kernel
theorem dX5_joined_128 : decode cX5_joined 128 = .ok (.ireturn, 1) := by decide +kernel
theorem dX5_joined_124 : decode cX5_joined 124 = .ok (.goto 4, 3) := by decide +kernel
theorem dX5_joined_123 : decode cX5_joined 123 = .ok (.iconst 1, 1) := by decide +kernel
theorem dX5_joined_69 : decode cX5_joined 69 = .ok (.ifCond .ne 7, 3) := by decide +kernel
theorem dX5_joined_68 : decode cX5_joined 68 = .ok (.iload_n 1, 1) := by decide +kernel
theorem dX5_joined_73 : decode cX5_joined 73 = .ok (.ifCond .eq 7, 3) := by decide +kernel
theorem dX5_joined_72 : decode cX5_joined 72 = .ok (.iload_n 2, 1) := by decide +kernel
theorem dX5_joined_80 : decode cX5_joined 80 = .ok (.iconst 0, 1) := by decide +kernel
theorem dX5_joined_81 : decode cX5_joined 81 = .ok (.ireturn, 1) := by decide +kernel
theorem dX5_joined_77 : decode cX5_joined 77 = .ok (.goto 4, 3) := by decide +kernel
theorem dX5_joined_76 : decode cX5_joined 76 = .ok (.iconst 1, 1) := by decide +kernel
theorem dX5_joined_139 : decode cX5_joined 139 = .ok (.imul, 1) := by decide +kernel
theorem dX5_joined_138 : decode cX5_joined 138 = .ok (.iload_n 2, 1) := by decide +kernel
theorem dX5_joined_137 : decode cX5_joined 137 = .ok (.iload_n 1, 1) := by decide +kernel
theorem dX5_joined_140 : decode cX5_joined 140 = .ok (.ireturn, 1) := by decide +kernel
theorem dX10_copyFrom_0 : decode cX10_copyFrom 0 = .ok (.aload_n 0, 1) := by decide +kernel
theorem dX10_copyFrom_1 : decode cX10_copyFrom 1 = .ok (.getfield 14, 3) := by decide +kernel
theorem dX10_copyFrom_4 : decode cX10_copyFrom 4 = .ok (.aload_n 1, 1) := by decide +kernel
theorem dX10_copyFrom_5 : decode cX10_copyFrom 5 = .ok (.getfield 14, 3) := by decide +kernel
theorem dX10_copyFrom_8 : decode cX10_copyFrom 8 = .ok (.invokevirtual 55, 3) := by decide +kernel
theorem dX10_copyFrom_11 : decode cX10_copyFrom 11 = .ok (.aload_n 0, 1) := by decide +kernel
theorem dX10_copyFrom_12 : decode cX10_copyFrom 12 = .ok (.getfield 20, 3) := by decide +kernel
theorem dX10_copyFrom_15 : decode cX10_copyFrom 15 = .ok (.aload_n 1, 1) := by decide +kernel
theorem dX10_copyFrom_16 : decode cX10_copyFrom 16 = .ok (.getfield 20, 3) := by decide +kernel
theorem dX10_copyFrom_19 : decode cX10_copyFrom 19 = .ok (.invokevirtual 55, 3) := by decide +kernel
theorem dX10_copyFrom_22 : decode cX10_copyFrom 22 = .ok (.aload_n 0, 1) := by decide +kernel
theorem dX10_copyFrom_23 : decode cX10_copyFrom 23 = .ok (.getfield 23, 3) := by decide +kernel
theorem dX10_copyFrom_26 : decode cX10_copyFrom 26 = .ok (.aload_n 1, 1) := by decide +kernel
theorem dX10_copyFrom_27 : decode cX10_copyFrom 27 = .ok (.getfield 23, 3) := by decide +kernel
theorem dX10_copyFrom_30 : decode cX10_copyFrom 30 = .ok (.invokevirtual 55, 3) := by decide +kernel
theorem dX10_copyFrom_33 : decode cX10_copyFrom 33 = .ok (.aload_n 0, 1) := by decide +kernel
theorem dX10_copyFrom_34 : decode cX10_copyFrom 34 = .ok (.getfield 26, 3) := by decide +kernel
theorem dX10_copyFrom_37 : decode cX10_copyFrom 37 = .ok (.aload_n 1, 1) := by decide +kernel
theorem dX10_copyFrom_38 : decode cX10_copyFrom 38 = .ok (.getfield 26, 3) := by decide +kernel
theorem dX10_copyFrom_41 : decode cX10_copyFrom 41 = .ok (.invokevirtual 55, 3) := by decide +kernel
theorem dX10_copyFrom_44 : decode cX10_copyFrom 44 = .ok (.aload_n 0, 1) := by decide +kernel
theorem dX10_copyFrom_45 : decode cX10_copyFrom 45 = .ok (.getfield 29, 3) := by decide +kernel
theorem dX10_copyFrom_48 : decode cX10_copyFrom 48 = .ok (.aload_n 1, 1) := by decide +kernel
theorem dX10_copyFrom_49 : decode cX10_copyFrom 49 = .ok (.getfield 29, 3) := by decide +kernel
theorem dX10_copyFrom_52 : decode cX10_copyFrom 52 = .ok (.invokevirtual 55, 3) := by decide +kernel
theorem dX10_copyFrom_55 : decode cX10_copyFrom 55 = .ok (.aload_n 0, 1) := by decide +kernel
theorem dX10_copyFrom_56 : decode cX10_copyFrom 56 = .ok (.getfield 32, 3) := by decide +kernel
theorem dX10_copyFrom_59 : decode cX10_copyFrom 59 = .ok (.aload_n 1, 1) := by decide +kernel
theorem dX10_copyFrom_60 : decode cX10_copyFrom 60 = .ok (.getfield 32, 3) := by decide +kernel
theorem dX10_copyFrom_63 : decode cX10_copyFrom 63 = .ok (.invokevirtual 55, 3) := by decide +kernel
theorem dX10_copyFrom_66 : decode cX10_copyFrom 66 = .ok (.aload_n 0, 1) := by decide +kernel
theorem dX10_copyFrom_67 : decode cX10_copyFrom 67 = .ok (.getfield 35, 3) := by decide +kernel
theorem dX10_copyFrom_70 : decode cX10_copyFrom 70 = .ok (.aload_n 1, 1) := by decide +kernel
theorem dX10_copyFrom_71 : decode cX10_copyFrom 71 = .ok (.getfield 35, 3) := by decide +kernel
theorem dX10_copyFrom_74 : decode cX10_copyFrom 74 = .ok (.invokevirtual 55, 3) := by decide +kernel
theorem dX10_copyFrom_77 : decode cX10_copyFrom 77 = .ok (.aload_n 0, 1) := by decide +kernel
theorem dX10_copyFrom_78 : decode cX10_copyFrom 78 = .ok (.getfield 41, 3) := by decide +kernel
theorem dX10_copyFrom_81 : decode cX10_copyFrom 81 = .ok (.aload_n 1, 1) := by decide +kernel
theorem dX10_copyFrom_82 : decode cX10_copyFrom 82 = .ok (.getfield 41, 3) := by decide +kernel
theorem dX10_copyFrom_85 : decode cX10_copyFrom 85 = .ok (.invokevirtual 59, 3) := by decide +kernel
theorem dX10_copyFrom_89 : decode cX10_copyFrom 89 = .ok (.aload_n 1, 1) := by decide +kernel
theorem dX10_copyFrom_88 : decode cX10_copyFrom 88 = .ok (.aload_n 0, 1) := by decide +kernel
theorem dX10_copyFrom_90 : decode cX10_copyFrom 90 = .ok (.getfield 45, 3) := by decide +kernel
theorem dX10_copyFrom_93 : decode cX10_copyFrom 93 = .ok (.putfield 45, 3) := by decide +kernel
theorem dX10_copyFrom_97 : decode cX10_copyFrom 97 = .ok (.aload_n 1, 1) := by decide +kernel
theorem dX10_copyFrom_96 : decode cX10_copyFrom 96 = .ok (.aload_n 0, 1) := by decide +kernel
theorem dX10_copyFrom_98 : decode cX10_copyFrom 98 = .ok (.getfield 49, 3) := by decide +kernel
theorem dX10_copyFrom_101 : decode cX10_copyFrom 101 = .ok (.putfield 49, 3) := by decide +kernel
theorem dX10_copyFrom_105 : decode cX10_copyFrom 105 = .ok (.aload_n 1, 1) := by decide +kernel
theorem dX10_copyFrom_104 : decode cX10_copyFrom 104 = .ok (.aload_n 0, 1) := by decide +kernel
theorem dX10_copyFrom_106 : decode cX10_copyFrom 106 = .ok (.getfield 52, 3) := by decide +kernel
theorem dX10_copyFrom_109 : decode cX10_copyFrom 109 = .ok (.putfield 52, 3) := by decide +kernel
theorem dX10_copyFrom_112 : decode cX10_copyFrom 112 = .ok (.return_, 1) := by decide +kernel
theorem dX10_isSeen_1 : decode cX10_isSeen 1 = .ok (.istore_n 2, 1) := by decide +kernel
theorem dX10_isSeen_0 : decode cX10_isSeen 0 = .ok (.iconst 0, 1) := by decide +kernel
theorem dX10_isSeen_3 : decode cX10_isSeen 3 = .ok (.aload_n 0, 1) := by decide +kernel
theorem dX10_isSeen_2 : decode cX10_isSeen 2 = .ok (.iload_n 2, 1) := by decide +kernel
theorem dX10_isSeen_4 : decode cX10_isSeen 4 = .ok (.getfield 14, 3) := by decide +kernel
theorem dX10_isSeen_7 : decode cX10_isSeen 7 = .ok (.invokevirtual 62, 3) := by decide +kernel
theorem dX10_isSeen_10 : decode cX10_isSeen 10 = .ok (.if_icmp .ge 48, 3) := by decide +kernel
theorem dX10_isSeen_58 : decode cX10_isSeen 58 = .ok (.iconst 0, 1) := by decide +kernel
theorem dX10_isSeen_59 : decode cX10_isSeen 59 = .ok (.ireturn, 1) := by decide +kernel
theorem dX10_isSeen_13 : decode cX10_isSeen 13 = .ok (.aload_n 0, 1) := by decide +kernel
theorem dX10_isSeen_14 : decode cX10_isSeen 14 = .ok (.getfield 14, 3) := by decide +kernel
theorem dX10_isSeen_18 : decode cX10_isSeen 18 = .ok (.iconst 2, 1) := by decide +kernel
theorem dX10_isSeen_17 : decode cX10_isSeen 17 = .ok (.iload_n 2, 1) := by decide +kernel
theorem dX10_isSeen_19 : decode cX10_isSeen 19 = .ok (.invokevirtual 66, 3) := by decide +kernel
theorem dX10_isSeen_22 : decode cX10_isSeen 22 = .ok (.ifCond .ne 30, 3) := by decide +kernel
theorem dX10_isSeen_26 : decode cX10_isSeen 26 = .ok (.aload_n 0, 1) := by decide +kernel
theorem dX10_isSeen_25 : decode cX10_isSeen 25 = .ok (.iload_n 1, 1) := by decide +kernel
theorem dX10_isSeen_27 : decode cX10_isSeen 27 = .ok (.getfield 14, 3) := by decide +kernel
theorem dX10_isSeen_31 : decode cX10_isSeen 31 = .ok (.iconst 0, 1) := by decide +kernel
theorem dX10_isSeen_30 : decode cX10_isSeen 30 = .ok (.iload_n 2, 1) := by decide +kernel
theorem dX10_isSeen_32 : decode cX10_isSeen 32 = .ok (.invokevirtual 66, 3) := by decide +kernel
theorem dX10_isSeen_55 : decode cX10_isSeen 55 = .ok (.goto (-53), 3) := by decide +kernel
theorem dX10_isSeen_52 : decode cX10_isSeen 52 = .ok (.iinc 2 1, 3) := by decide +kernel
theorem dX10_isSeen_35 : decode cX10_isSeen 35 = .ok (.aload_n 0, 1) := by decide +kernel
theorem dX10_isSeen_36 : decode cX10_isSeen 36 = .ok (.getfield 14, 3) := by decide +kernel
theorem dX10_isSeen_40 : decode cX10_isSeen 40 = .ok (.iconst 1, 1) := by decide +kernel
theorem dX10_isSeen_39 : decode cX10_isSeen 39 = .ok (.iload_n 2, 1) := by decide +kernel
theorem dX10_isSeen_41 : decode cX10_isSeen 41 = .ok (.invokevirtual 66, 3) := by decide +kernel
theorem dX10_isSeen_44 : decode cX10_isSeen 44 = .ok (.invokestatic 70, 3) := by decide +kernel
theorem dX10_isSeen_47 : decode cX10_isSeen 47 = .ok (.ifCond .eq 5, 3) := by decide +kernel
theorem dX10_isSeen_50 : decode cX10_isSeen 50 = .ok (.iconst 1, 1) := by decide +kernel
theorem dX10_isSeen_51 : decode cX10_isSeen 51 = .ok (.ireturn, 1) := by decide +kernel
theorem dX10_isHeard_1 : decode cX10_isHeard 1 = .ok (.istore_n 2, 1) := by decide +kernel
theorem dX10_isHeard_0 : decode cX10_isHeard 0 = .ok (.iconst 0, 1) := by decide +kernel
theorem dX10_isHeard_3 : decode cX10_isHeard 3 = .ok (.aload_n 0, 1) := by decide +kernel
theorem dX10_isHeard_2 : decode cX10_isHeard 2 = .ok (.iload_n 2, 1) := by decide +kernel
theorem dX10_isHeard_4 : decode cX10_isHeard 4 = .ok (.getfield 20, 3) := by decide +kernel
theorem dX10_isHeard_7 : decode cX10_isHeard 7 = .ok (.invokevirtual 62, 3) := by decide +kernel
theorem dX10_isHeard_10 : decode cX10_isHeard 10 = .ok (.if_icmp .ge 41, 3) := by decide +kernel
theorem dX10_isHeard_51 : decode cX10_isHeard 51 = .ok (.iconst 0, 1) := by decide +kernel
theorem dX10_isHeard_52 : decode cX10_isHeard 52 = .ok (.ireturn, 1) := by decide +kernel
theorem dX10_isHeard_14 : decode cX10_isHeard 14 = .ok (.aload_n 0, 1) := by decide +kernel
theorem dX10_isHeard_13 : decode cX10_isHeard 13 = .ok (.iload_n 1, 1) := by decide +kernel
theorem dX10_isHeard_15 : decode cX10_isHeard 15 = .ok (.getfield 20, 3) := by decide +kernel
theorem dX10_isHeard_19 : decode cX10_isHeard 19 = .ok (.iconst 0, 1) := by decide +kernel
theorem dX10_isHeard_18 : decode cX10_isHeard 18 = .ok (.iload_n 2, 1) := by decide +kernel
theorem dX10_isHeard_20 : decode cX10_isHeard 20 = .ok (.invokevirtual 66, 3) := by decide +kernel
theorem dX10_isHeard_23 : decode cX10_isHeard 23 = .ok (.invokestatic 76, 3) := by decide +kernel
theorem dX10_isHeard_26 : decode cX10_isHeard 26 = .ok (.aload_n 0, 1) := by decide +kernel
theorem dX10_isHeard_27 : decode cX10_isHeard 27 = .ok (.getfield 20, 3) := by decide +kernel
theorem dX10_isHeard_31 : decode cX10_isHeard 31 = .ok (.iconst 1, 1) := by decide +kernel
theorem dX10_isHeard_30 : decode cX10_isHeard 30 = .ok (.iload_n 2, 1) := by decide +kernel
theorem dX10_isHeard_32 : decode cX10_isHeard 32 = .ok (.invokevirtual 66, 3) := by decide +kernel
theorem dX10_isHeard_35 : decode cX10_isHeard 35 = .ok (.aload_n 0, 1) := by decide +kernel
theorem dX10_isHeard_36 : decode cX10_isHeard 36 = .ok (.getfield 49, 3) := by decide +kernel
theorem dX10_isHeard_40 : decode cX10_isHeard 40 = .ok (.if_icmp .gt 5, 3) := by decide +kernel
theorem dX10_isHeard_39 : decode cX10_isHeard 39 = .ok (.isub, 1) := by decide +kernel
theorem dX10_isHeard_48 : decode cX10_isHeard 48 = .ok (.goto (-46), 3) := by decide +kernel
theorem dX10_isHeard_45 : decode cX10_isHeard 45 = .ok (.iinc 2 1, 3) := by decide +kernel
theorem dX10_isHeard_43 : decode cX10_isHeard 43 = .ok (.iconst 1, 1) := by decide +kernel
theorem dX10_isHeard_44 : decode cX10_isHeard 44 = .ok (.ireturn, 1) := by decide +kernel
theorem dX10_isWatched_1 : decode cX10_isWatched 1 = .ok (.iload_n 1, 1) := by decide +kernel
theorem dX10_isWatched_0 : decode cX10_isWatched 0 = .ok (.aload_n 0, 1) := by decide +kernel
theorem dX10_isWatched_2 : decode cX10_isWatched 2 = .ok (.invokevirtual 79, 3) := by decide +kernel
theorem dX10_isWatched_5 : decode cX10_isWatched 5 = .ok (.ifCond .ne 11, 3) := by decide +kernel
theorem dX10_isWatched_9 : decode cX10_isWatched 9 = .ok (.iload_n 1, 1) := by decide +kernel
theorem dX10_isWatched_8 : decode cX10_isWatched 8 = .ok (.aload_n 0, 1) := by decide +kernel
theorem dX10_isWatched_10 : decode cX10_isWatched 10 = .ok (.invokevirtual 83, 3) := by decide +kernel
theorem dX10_isWatched_17 : decode cX10_isWatched 17 = .ok (.goto 4, 3) := by decide +kernel
theorem dX10_isWatched_16 : decode cX10_isWatched 16 = .ok (.iconst 1, 1) := by decide +kernel
theorem dX10_isWatched_21 : decode cX10_isWatched 21 = .ok (.ireturn, 1) := by decide +kernel
theorem dX10_isWatched_13 : decode cX10_isWatched 13 = .ok (.ifCond .eq 7, 3) := by decide +kernel
theorem dX10_isWatched_20 : decode cX10_isWatched 20 = .ok (.iconst 0, 1) := by decide +kernel
theorem dX10_cellsSeen_3 : decode cX10_cellsSeen 3 = .ok (.istore_n 2, 1) := by decide +kernel
theorem dX10_cellsSeen_2 : decode cX10_cellsSeen 2 = .ok (.iconst 0, 1) := by decide +kernel
theorem dX10_cellsSeen_1 : decode cX10_cellsSeen 1 = .ok (.istore_n 1, 1) := by decide +kernel
theorem dX10_cellsSeen_0 : decode cX10_cellsSeen 0 = .ok (.iconst 0, 1) := by decide +kernel
theorem dX10_cellsSeen_8 : decode cX10_cellsSeen 8 = .ok (.if_icmp .ge 25, 3) := by decide +kernel
theorem dX10_cellsSeen_5 : decode cX10_cellsSeen 5 = .ok (.sipush 256, 3) := by decide +kernel
theorem dX10_cellsSeen_4 : decode cX10_cellsSeen 4 = .ok (.iload_n 2, 1) := by decide +kernel
theorem dX10_cellsSeen_33 : decode cX10_cellsSeen 33 = .ok (.iload_n 1, 1) := by decide +kernel
theorem dX10_cellsSeen_34 : decode cX10_cellsSeen 34 = .ok (.ireturn, 1) := by decide +kernel
theorem dX10_cellsSeen_13 : decode cX10_cellsSeen 13 = .ok (.iload_n 2, 1) := by decide +kernel
theorem dX10_cellsSeen_12 : decode cX10_cellsSeen 12 = .ok (.aload_n 0, 1) := by decide +kernel
theorem dX10_cellsSeen_11 : decode cX10_cellsSeen 11 = .ok (.iload_n 1, 1) := by decide +kernel
theorem dX10_cellsSeen_14 : decode cX10_cellsSeen 14 = .ok (.invokevirtual 79, 3) := by decide +kernel
theorem dX10_cellsSeen_17 : decode cX10_cellsSeen 17 = .ok (.ifCond .eq 7, 3) := by decide +kernel
theorem dX10_cellsSeen_30 : decode cX10_cellsSeen 30 = .ok (.goto (-26), 3) := by decide +kernel
theorem dX10_cellsSeen_27 : decode cX10_cellsSeen 27 = .ok (.iinc 2 1, 3) := by decide +kernel
theorem dX10_cellsSeen_26 : decode cX10_cellsSeen 26 = .ok (.istore_n 1, 1) := by decide +kernel
theorem dX10_cellsSeen_25 : decode cX10_cellsSeen 25 = .ok (.iadd, 1) := by decide +kernel
theorem dX10_cellsSeen_24 : decode cX10_cellsSeen 24 = .ok (.iconst 0, 1) := by decide +kernel
theorem dX10_cellsSeen_21 : decode cX10_cellsSeen 21 = .ok (.goto 4, 3) := by decide +kernel
theorem dX10_cellsSeen_20 : decode cX10_cellsSeen 20 = .ok (.iconst 1, 1) := by decide +kernel
theorem dX10_addPlot_0 : decode cX10_addPlot 0 = .ok (.aload_n 0, 1) := by decide +kernel
theorem dX10_addPlot_1 : decode cX10_addPlot 1 = .ok (.getfield 23, 3) := by decide +kernel
theorem dX10_addPlot_4 : decode cX10_addPlot 4 = .ok (.iload_n 1, 1) := by decide +kernel
theorem dX10_addPlot_5 : decode cX10_addPlot 5 = .ok (.invokevirtual 86, 3) := by decide +kernel
theorem dX10_addPlot_9 : decode cX10_addPlot 9 = .ok (.aload_n 0, 1) := by decide +kernel
theorem dX10_addPlot_8 : decode cX10_addPlot 8 = .ok (.istore_n 3, 1) := by decide +kernel
theorem dX10_addPlot_10 : decode cX10_addPlot 10 = .ok (.getfield 23, 3) := by decide +kernel
theorem dX10_addPlot_15 : decode cX10_addPlot 15 = .ok (.iload_n 2, 1) := by decide +kernel
theorem dX10_addPlot_14 : decode cX10_addPlot 14 = .ok (.iconst 1, 1) := by decide +kernel
theorem dX10_addPlot_13 : decode cX10_addPlot 13 = .ok (.iload_n 3, 1) := by decide +kernel
theorem dX10_addPlot_16 : decode cX10_addPlot 16 = .ok (.invokevirtual 90, 3) := by decide +kernel
theorem dX10_addPlot_19 : decode cX10_addPlot 19 = .ok (.aload_n 0, 1) := by decide +kernel
theorem dX10_addPlot_20 : decode cX10_addPlot 20 = .ok (.getfield 23, 3) := by decide +kernel
theorem dX10_addPlot_25 : decode cX10_addPlot 25 = .ok (.aload_n 0, 1) := by decide +kernel
theorem dX10_addPlot_24 : decode cX10_addPlot 24 = .ok (.iconst 2, 1) := by decide +kernel
theorem dX10_addPlot_23 : decode cX10_addPlot 23 = .ok (.iload_n 3, 1) := by decide +kernel
theorem dX10_addPlot_26 : decode cX10_addPlot 26 = .ok (.getfield 45, 3) := by decide +kernel
theorem dX10_addPlot_29 : decode cX10_addPlot 29 = .ok (.invokevirtual 90, 3) := by decide +kernel
theorem dX10_addPlot_32 : decode cX10_addPlot 32 = .ok (.iload_n 3, 1) := by decide +kernel
theorem dX10_addPlot_33 : decode cX10_addPlot 33 = .ok (.ireturn, 1) := by decide +kernel
theorem dX10_mayBeFollowed_0 : decode cX10_mayBeFollowed 0 = .ok (.aload_n 0, 1) := by decide +kernel
theorem dX10_mayBeFollowed_1 : decode cX10_mayBeFollowed 1 = .ok (.getfield 23, 3) := by decide +kernel
theorem dX10_mayBeFollowed_5 : decode cX10_mayBeFollowed 5 = .ok (.iconst 2, 1) := by decide +kernel
theorem dX10_mayBeFollowed_4 : decode cX10_mayBeFollowed 4 = .ok (.iload_n 2, 1) := by decide +kernel
theorem dX10_mayBeFollowed_6 : decode cX10_mayBeFollowed 6 = .ok (.invokevirtual 66, 3) := by decide +kernel
theorem dX10_mayBeFollowed_9 : decode cX10_mayBeFollowed 9 = .ok (.aload_n 0, 1) := by decide +kernel
theorem dX10_mayBeFollowed_10 : decode cX10_mayBeFollowed 10 = .ok (.getfield 23, 3) := by decide +kernel
theorem dX10_mayBeFollowed_14 : decode cX10_mayBeFollowed 14 = .ok (.iconst 2, 1) := by decide +kernel
theorem dX10_mayBeFollowed_13 : decode cX10_mayBeFollowed 13 = .ok (.iload_n 1, 1) := by decide +kernel
theorem dX10_mayBeFollowed_15 : decode cX10_mayBeFollowed 15 = .ok (.invokevirtual 66, 3) := by decide +kernel
theorem dX10_mayBeFollowed_21 : decode cX10_mayBeFollowed 21 = .ok (.ifCond .le 22, 3) := by decide +kernel
theorem dX10_mayBeFollowed_20 : decode cX10_mayBeFollowed 20 = .ok (.iload_n 3, 1) := by decide +kernel
theorem dX10_mayBeFollowed_19 : decode cX10_mayBeFollowed 19 = .ok (.istore_n 3, 1) := by decide +kernel
theorem dX10_mayBeFollowed_18 : decode cX10_mayBeFollowed 18 = .ok (.isub, 1) := by decide +kernel
theorem dX10_mayBeFollowed_43 : decode cX10_mayBeFollowed 43 = .ok (.iconst 0, 1) := by decide +kernel
theorem dX10_mayBeFollowed_44 : decode cX10_mayBeFollowed 44 = .ok (.ireturn, 1) := by decide +kernel
theorem dX10_mayBeFollowed_26 : decode cX10_mayBeFollowed 26 = .ok (.iload_n 2, 1) := by decide +kernel
theorem dX10_mayBeFollowed_25 : decode cX10_mayBeFollowed 25 = .ok (.iload_n 1, 1) := by decide +kernel
theorem dX10_mayBeFollowed_24 : decode cX10_mayBeFollowed 24 = .ok (.aload_n 0, 1) := by decide +kernel
theorem dX10_mayBeFollowed_27 : decode cX10_mayBeFollowed 27 = .ok (.invokevirtual 94, 3) := by decide +kernel
theorem dX10_mayBeFollowed_30 : decode cX10_mayBeFollowed 30 = .ok (.aload_n 0, 1) := by decide +kernel
theorem dX10_mayBeFollowed_31 : decode cX10_mayBeFollowed 31 = .ok (.getfield 52, 3) := by decide +kernel
theorem dX10_mayBeFollowed_36 : decode cX10_mayBeFollowed 36 = .ok (.if_icmp .gt 7, 3) := by decide +kernel
theorem dX10_mayBeFollowed_35 : decode cX10_mayBeFollowed 35 = .ok (.imul, 1) := by decide +kernel
theorem dX10_mayBeFollowed_34 : decode cX10_mayBeFollowed 34 = .ok (.iload_n 3, 1) := by decide +kernel
theorem dX10_mayBeFollowed_40 : decode cX10_mayBeFollowed 40 = .ok (.goto 4, 3) := by decide +kernel
theorem dX10_mayBeFollowed_39 : decode cX10_mayBeFollowed 39 = .ok (.iconst 1, 1) := by decide +kernel
theorem dX10_plotsApart_0 : decode cX10_plotsApart 0 = .ok (.aload_n 0, 1) := by decide +kernel
theorem dX10_plotsApart_1 : decode cX10_plotsApart 1 = .ok (.getfield 23, 3) := by decide +kernel
theorem dX10_plotsApart_5 : decode cX10_plotsApart 5 = .ok (.iconst 0, 1) := by decide +kernel
theorem dX10_plotsApart_4 : decode cX10_plotsApart 4 = .ok (.iload_n 1, 1) := by decide +kernel
theorem dX10_plotsApart_6 : decode cX10_plotsApart 6 = .ok (.invokevirtual 66, 3) := by decide +kernel
theorem dX10_plotsApart_9 : decode cX10_plotsApart 9 = .ok (.aload_n 0, 1) := by decide +kernel
theorem dX10_plotsApart_10 : decode cX10_plotsApart 10 = .ok (.getfield 23, 3) := by decide +kernel
theorem dX10_plotsApart_14 : decode cX10_plotsApart 14 = .ok (.iconst 0, 1) := by decide +kernel
theorem dX10_plotsApart_13 : decode cX10_plotsApart 13 = .ok (.iload_n 2, 1) := by decide +kernel
theorem dX10_plotsApart_15 : decode cX10_plotsApart 15 = .ok (.invokevirtual 66, 3) := by decide +kernel
theorem dX10_plotsApart_18 : decode cX10_plotsApart 18 = .ok (.invokestatic 76, 3) := by decide +kernel
theorem dX10_plotsApart_21 : decode cX10_plotsApart 21 = .ok (.ireturn, 1) := by decide +kernel
theorem dX10_addFlyer_0 : decode cX10_addFlyer 0 = .ok (.aload_n 0, 1) := by decide +kernel
theorem dX10_addFlyer_1 : decode cX10_addFlyer 1 = .ok (.getfield 32, 3) := by decide +kernel
theorem dX10_addFlyer_4 : decode cX10_addFlyer 4 = .ok (.iload_n 1, 1) := by decide +kernel
theorem dX10_addFlyer_5 : decode cX10_addFlyer 5 = .ok (.invokevirtual 86, 3) := by decide +kernel
theorem dX10_addFlyer_10 : decode cX10_addFlyer 10 = .ok (.aload_n 0, 1) := by decide +kernel
theorem dX10_addFlyer_8 : decode cX10_addFlyer 8 = .ok (.istore 4, 2) := by decide +kernel
theorem dX10_addFlyer_11 : decode cX10_addFlyer 11 = .ok (.getfield 32, 3) := by decide +kernel
theorem dX10_addFlyer_17 : decode cX10_addFlyer 17 = .ok (.iload_n 2, 1) := by decide +kernel
theorem dX10_addFlyer_16 : decode cX10_addFlyer 16 = .ok (.iconst 1, 1) := by decide +kernel
theorem dX10_addFlyer_14 : decode cX10_addFlyer 14 = .ok (.iload 4, 2) := by decide +kernel
theorem dX10_addFlyer_18 : decode cX10_addFlyer 18 = .ok (.invokevirtual 90, 3) := by decide +kernel
theorem dX10_addFlyer_21 : decode cX10_addFlyer 21 = .ok (.aload_n 0, 1) := by decide +kernel
theorem dX10_addFlyer_22 : decode cX10_addFlyer 22 = .ok (.getfield 32, 3) := by decide +kernel
theorem dX10_addFlyer_28 : decode cX10_addFlyer 28 = .ok (.iload_n 3, 1) := by decide +kernel
theorem dX10_addFlyer_27 : decode cX10_addFlyer 27 = .ok (.iconst 5, 1) := by decide +kernel
theorem dX10_addFlyer_25 : decode cX10_addFlyer 25 = .ok (.iload 4, 2) := by decide +kernel
theorem dX10_addFlyer_29 : decode cX10_addFlyer 29 = .ok (.invokevirtual 90, 3) := by decide +kernel
theorem dX10_addFlyer_32 : decode cX10_addFlyer 32 = .ok (.aload_n 0, 1) := by decide +kernel
theorem dX10_addFlyer_33 : decode cX10_addFlyer 33 = .ok (.getfield 32, 3) := by decide +kernel
theorem dX10_addFlyer_40 : decode cX10_addFlyer 40 = .ok (.iconst 0, 1) := by decide +kernel
theorem dX10_addFlyer_38 : decode cX10_addFlyer 38 = .ok (.bipush 6, 2) := by decide +kernel
theorem dX10_addFlyer_36 : decode cX10_addFlyer 36 = .ok (.iload 4, 2) := by decide +kernel
theorem dX10_addFlyer_41 : decode cX10_addFlyer 41 = .ok (.invokevirtual 90, 3) := by decide +kernel
theorem dX10_addFlyer_44 : decode cX10_addFlyer 44 = .ok (.aload_n 0, 1) := by decide +kernel
theorem dX10_addFlyer_45 : decode cX10_addFlyer 45 = .ok (.getfield 32, 3) := by decide +kernel
theorem dX10_addFlyer_52 : decode cX10_addFlyer 52 = .ok (.iconst (-1), 1) := by decide +kernel
theorem dX10_addFlyer_50 : decode cX10_addFlyer 50 = .ok (.bipush 7, 2) := by decide +kernel
theorem dX10_addFlyer_48 : decode cX10_addFlyer 48 = .ok (.iload 4, 2) := by decide +kernel
theorem dX10_addFlyer_53 : decode cX10_addFlyer 53 = .ok (.invokevirtual 90, 3) := by decide +kernel
theorem dX10_addFlyer_56 : decode cX10_addFlyer 56 = .ok (.aload_n 0, 1) := by decide +kernel
theorem dX10_addFlyer_57 : decode cX10_addFlyer 57 = .ok (.getfield 32, 3) := by decide +kernel
theorem dX10_addFlyer_64 : decode cX10_addFlyer 64 = .ok (.iconst (-1), 1) := by decide +kernel
theorem dX10_addFlyer_62 : decode cX10_addFlyer 62 = .ok (.bipush 8, 2) := by decide +kernel
theorem dX10_addFlyer_60 : decode cX10_addFlyer 60 = .ok (.iload 4, 2) := by decide +kernel
theorem dX10_addFlyer_65 : decode cX10_addFlyer 65 = .ok (.invokevirtual 90, 3) := by decide +kernel
theorem dX10_addFlyer_68 : decode cX10_addFlyer 68 = .ok (.aload_n 0, 1) := by decide +kernel
theorem dX10_addFlyer_69 : decode cX10_addFlyer 69 = .ok (.getfield 32, 3) := by decide +kernel
theorem dX10_addFlyer_76 : decode cX10_addFlyer 76 = .ok (.iconst (-1), 1) := by decide +kernel
theorem dX10_addFlyer_74 : decode cX10_addFlyer 74 = .ok (.bipush 9, 2) := by decide +kernel
theorem dX10_addFlyer_72 : decode cX10_addFlyer 72 = .ok (.iload 4, 2) := by decide +kernel
theorem dX10_addFlyer_77 : decode cX10_addFlyer 77 = .ok (.invokevirtual 90, 3) := by decide +kernel
theorem dX10_addFlyer_80 : decode cX10_addFlyer 80 = .ok (.iload 4, 2) := by decide +kernel
theorem dX10_addFlyer_82 : decode cX10_addFlyer 82 = .ok (.ireturn, 1) := by decide +kernel
theorem dX10_above_1 : decode cX10_above 1 = .ok (.ifCond .lt 19, 3) := by decide +kernel
theorem dX10_above_0 : decode cX10_above 0 = .ok (.iload_n 0, 1) := by decide +kernel
theorem dX10_above_20 : decode cX10_above 20 = .ok (.iconst (-1), 1) := by decide +kernel
theorem dX10_above_21 : decode cX10_above 21 = .ok (.ireturn, 1) := by decide +kernel
theorem dX10_above_4 : decode cX10_above 4 = .ok (.iload_n 0, 1) := by decide +kernel
theorem dX10_above_5 : decode cX10_above 5 = .ok (.getstatic 97, 3) := by decide +kernel
theorem dX10_above_8 : decode cX10_above 8 = .ok (.arraylength, 1) := by decide +kernel
theorem dX10_above_9 : decode cX10_above 9 = .ok (.if_icmp .ge 11, 3) := by decide +kernel
theorem dX10_above_12 : decode cX10_above 12 = .ok (.getstatic 97, 3) := by decide +kernel
theorem dX10_above_15 : decode cX10_above 15 = .ok (.iload_n 0, 1) := by decide +kernel
theorem dX10_above_16 : decode cX10_above 16 = .ok (.iaload, 1) := by decide +kernel
theorem dX10_above_17 : decode cX10_above 17 = .ok (.goto 4, 3) := by decide +kernel
theorem dX10_isA_0 : decode cX10_isA 0 = .ok (.aload_n 0, 1) := by decide +kernel
theorem dX10_isA_1 : decode cX10_isA 1 = .ok (.getfield 32, 3) := by decide +kernel
theorem dX10_isA_5 : decode cX10_isA 5 = .ok (.iconst 0, 1) := by decide +kernel
theorem dX10_isA_4 : decode cX10_isA 4 = .ok (.iload_n 1, 1) := by decide +kernel
theorem dX10_isA_6 : decode cX10_isA 6 = .ok (.invokevirtual 66, 3) := by decide +kernel
theorem dX10_isA_11 : decode cX10_isA 11 = .ok (.istore 4, 2) := by decide +kernel
theorem dX10_isA_10 : decode cX10_isA 10 = .ok (.iconst 0, 1) := by decide +kernel
theorem dX10_isA_9 : decode cX10_isA 9 = .ok (.istore_n 3, 1) := by decide +kernel
theorem dX10_isA_13 : decode cX10_isA 13 = .ok (.iload 4, 2) := by decide +kernel
theorem dX10_isA_15 : decode cX10_isA 15 = .ok (.getstatic 97, 3) := by decide +kernel
theorem dX10_isA_18 : decode cX10_isA 18 = .ok (.arraylength, 1) := by decide +kernel
theorem dX10_isA_19 : decode cX10_isA 19 = .ok (.if_icmp .ge 19, 3) := by decide +kernel
theorem dX10_isA_40 : decode cX10_isA 40 = .ok (.if_icmp .ne 7, 3) := by decide +kernel
theorem dX10_isA_39 : decode cX10_isA 39 = .ok (.iload_n 2, 1) := by decide +kernel
theorem dX10_isA_38 : decode cX10_isA 38 = .ok (.iload_n 3, 1) := by decide +kernel
theorem dX10_isA_44 : decode cX10_isA 44 = .ok (.goto 4, 3) := by decide +kernel
theorem dX10_isA_43 : decode cX10_isA 43 = .ok (.iconst 1, 1) := by decide +kernel
theorem dX10_isA_48 : decode cX10_isA 48 = .ok (.ireturn, 1) := by decide +kernel
theorem dX10_isA_47 : decode cX10_isA 47 = .ok (.iconst 0, 1) := by decide +kernel
theorem dX10_isA_24 : decode cX10_isA 24 = .ok (.if_icmp .eq 14, 3) := by decide +kernel
theorem dX10_isA_23 : decode cX10_isA 23 = .ok (.iload_n 2, 1) := by decide +kernel
theorem dX10_isA_22 : decode cX10_isA 22 = .ok (.iload_n 3, 1) := by decide +kernel
theorem dX10_isA_27 : decode cX10_isA 27 = .ok (.iload_n 3, 1) := by decide +kernel
theorem dX10_isA_28 : decode cX10_isA 28 = .ok (.invokestatic 101, 3) := by decide +kernel
theorem dX10_isA_35 : decode cX10_isA 35 = .ok (.goto (-22), 3) := by decide +kernel
theorem dX10_isA_32 : decode cX10_isA 32 = .ok (.iinc 4 1, 3) := by decide +kernel
theorem dX10_isA_31 : decode cX10_isA 31 = .ok (.istore_n 3, 1) := by decide +kernel
theorem dX10_stands_0 : decode cX10_stands 0 = .ok (.aload_n 0, 1) := by decide +kernel
theorem dX10_stands_1 : decode cX10_stands 1 = .ok (.getfield 32, 3) := by decide +kernel
theorem dX10_stands_5 : decode cX10_stands 5 = .ok (.bipush 6, 2) := by decide +kernel
theorem dX10_stands_4 : decode cX10_stands 4 = .ok (.iload_n 1, 1) := by decide +kernel
theorem dX10_stands_7 : decode cX10_stands 7 = .ok (.invokevirtual 66, 3) := by decide +kernel
theorem dX10_stands_11 : decode cX10_stands 11 = .ok (.if_icmp .ne 7, 3) := by decide +kernel
theorem dX10_stands_10 : decode cX10_stands 10 = .ok (.iload_n 2, 1) := by decide +kernel
theorem dX10_stands_15 : decode cX10_stands 15 = .ok (.goto 4, 3) := by decide +kernel
theorem dX10_stands_14 : decode cX10_stands 14 = .ok (.iconst 1, 1) := by decide +kernel
theorem dX10_stands_19 : decode cX10_stands 19 = .ok (.ireturn, 1) := by decide +kernel
theorem dX10_stands_18 : decode cX10_stands 18 = .ok (.iconst 0, 1) := by decide +kernel
theorem dX10_howMany_3 : decode cX10_howMany 3 = .ok (.istore 4, 2) := by decide +kernel
theorem dX10_howMany_2 : decode cX10_howMany 2 = .ok (.iconst 0, 1) := by decide +kernel
theorem dX10_howMany_1 : decode cX10_howMany 1 = .ok (.istore_n 3, 1) := by decide +kernel
theorem dX10_howMany_0 : decode cX10_howMany 0 = .ok (.iconst 0, 1) := by decide +kernel
theorem dX10_howMany_7 : decode cX10_howMany 7 = .ok (.aload_n 0, 1) := by decide +kernel
theorem dX10_howMany_5 : decode cX10_howMany 5 = .ok (.iload 4, 2) := by decide +kernel
theorem dX10_howMany_8 : decode cX10_howMany 8 = .ok (.getfield 32, 3) := by decide +kernel
theorem dX10_howMany_11 : decode cX10_howMany 11 = .ok (.invokevirtual 62, 3) := by decide +kernel
theorem dX10_howMany_14 : decode cX10_howMany 14 = .ok (.if_icmp .ge 37, 3) := by decide +kernel
theorem dX10_howMany_51 : decode cX10_howMany 51 = .ok (.iload_n 3, 1) := by decide +kernel
theorem dX10_howMany_52 : decode cX10_howMany 52 = .ok (.ireturn, 1) := by decide +kernel
theorem dX10_howMany_21 : decode cX10_howMany 21 = .ok (.iload_n 1, 1) := by decide +kernel
theorem dX10_howMany_19 : decode cX10_howMany 19 = .ok (.iload 4, 2) := by decide +kernel
theorem dX10_howMany_18 : decode cX10_howMany 18 = .ok (.aload_n 0, 1) := by decide +kernel
theorem dX10_howMany_17 : decode cX10_howMany 17 = .ok (.iload_n 3, 1) := by decide +kernel
theorem dX10_howMany_22 : decode cX10_howMany 22 = .ok (.invokevirtual 104, 3) := by decide +kernel
theorem dX10_howMany_25 : decode cX10_howMany 25 = .ok (.ifCond .eq 17, 3) := by decide +kernel
theorem dX10_howMany_48 : decode cX10_howMany 48 = .ok (.goto (-43), 3) := by decide +kernel
theorem dX10_howMany_45 : decode cX10_howMany 45 = .ok (.iinc 4 1, 3) := by decide +kernel
theorem dX10_howMany_44 : decode cX10_howMany 44 = .ok (.istore_n 3, 1) := by decide +kernel
theorem dX10_howMany_43 : decode cX10_howMany 43 = .ok (.iadd, 1) := by decide +kernel
theorem dX10_howMany_42 : decode cX10_howMany 42 = .ok (.iconst 0, 1) := by decide +kernel
theorem dX10_howMany_31 : decode cX10_howMany 31 = .ok (.iload_n 2, 1) := by decide +kernel
theorem dX10_howMany_29 : decode cX10_howMany 29 = .ok (.iload 4, 2) := by decide +kernel
theorem dX10_howMany_28 : decode cX10_howMany 28 = .ok (.aload_n 0, 1) := by decide +kernel
theorem dX10_howMany_32 : decode cX10_howMany 32 = .ok (.invokevirtual 108, 3) := by decide +kernel
theorem dX10_howMany_35 : decode cX10_howMany 35 = .ok (.ifCond .eq 7, 3) := by decide +kernel
theorem dX10_howMany_39 : decode cX10_howMany 39 = .ok (.goto 4, 3) := by decide +kernel
theorem dX10_howMany_38 : decode cX10_howMany 38 = .ok (.iconst 1, 1) := by decide +kernel
theorem dX10_nearestRaid_4 : decode cX10_nearestRaid 4 = .ok (.istore_n 3, 1) := by decide +kernel
theorem dX10_nearestRaid_3 : decode cX10_nearestRaid 3 = .ok (.iconst 0, 1) := by decide +kernel
theorem dX10_nearestRaid_2 : decode cX10_nearestRaid 2 = .ok (.istore_n 2, 1) := by decide +kernel
theorem dX10_nearestRaid_0 : decode cX10_nearestRaid 0 = .ok (.bipush 99, 2) := by decide +kernel
theorem dX10_nearestRaid_6 : decode cX10_nearestRaid 6 = .ok (.aload_n 0, 1) := by decide +kernel
theorem dX10_nearestRaid_5 : decode cX10_nearestRaid 5 = .ok (.iload_n 3, 1) := by decide +kernel
theorem dX10_nearestRaid_7 : decode cX10_nearestRaid 7 = .ok (.getfield 32, 3) := by decide +kernel
theorem dX10_nearestRaid_10 : decode cX10_nearestRaid 10 = .ok (.invokevirtual 62, 3) := by decide +kernel
theorem dX10_nearestRaid_13 : decode cX10_nearestRaid 13 = .ok (.if_icmp .ge 45, 3) := by decide +kernel
theorem dX10_nearestRaid_58 : decode cX10_nearestRaid 58 = .ok (.iload_n 2, 1) := by decide +kernel
theorem dX10_nearestRaid_59 : decode cX10_nearestRaid 59 = .ok (.ireturn, 1) := by decide +kernel
theorem dX10_nearestRaid_18 : decode cX10_nearestRaid 18 = .ok (.iconst 1, 1) := by decide +kernel
theorem dX10_nearestRaid_17 : decode cX10_nearestRaid 17 = .ok (.iload_n 3, 1) := by decide +kernel
theorem dX10_nearestRaid_16 : decode cX10_nearestRaid 16 = .ok (.aload_n 0, 1) := by decide +kernel
theorem dX10_nearestRaid_19 : decode cX10_nearestRaid 19 = .ok (.invokevirtual 104, 3) := by decide +kernel
theorem dX10_nearestRaid_22 : decode cX10_nearestRaid 22 = .ok (.ifCond .eq 30, 3) := by decide +kernel
theorem dX10_nearestRaid_55 : decode cX10_nearestRaid 55 = .ok (.goto (-50), 3) := by decide +kernel
theorem dX10_nearestRaid_52 : decode cX10_nearestRaid 52 = .ok (.iinc 3 1, 3) := by decide +kernel
theorem dX10_nearestRaid_27 : decode cX10_nearestRaid 27 = .ok (.iconst 0, 1) := by decide +kernel
theorem dX10_nearestRaid_26 : decode cX10_nearestRaid 26 = .ok (.iload_n 3, 1) := by decide +kernel
theorem dX10_nearestRaid_25 : decode cX10_nearestRaid 25 = .ok (.aload_n 0, 1) := by decide +kernel
theorem dX10_nearestRaid_28 : decode cX10_nearestRaid 28 = .ok (.invokevirtual 108, 3) := by decide +kernel
theorem dX10_nearestRaid_31 : decode cX10_nearestRaid 31 = .ok (.ifCond .eq 21, 3) := by decide +kernel
theorem dX10_nearestRaid_36 : decode cX10_nearestRaid 36 = .ok (.aload_n 0, 1) := by decide +kernel
theorem dX10_nearestRaid_35 : decode cX10_nearestRaid 35 = .ok (.iload_n 1, 1) := by decide +kernel
theorem dX10_nearestRaid_34 : decode cX10_nearestRaid 34 = .ok (.iload_n 2, 1) := by decide +kernel
theorem dX10_nearestRaid_37 : decode cX10_nearestRaid 37 = .ok (.getfield 32, 3) := by decide +kernel
theorem dX10_nearestRaid_41 : decode cX10_nearestRaid 41 = .ok (.iconst 1, 1) := by decide +kernel
theorem dX10_nearestRaid_40 : decode cX10_nearestRaid 40 = .ok (.iload_n 3, 1) := by decide +kernel
theorem dX10_nearestRaid_42 : decode cX10_nearestRaid 42 = .ok (.invokevirtual 66, 3) := by decide +kernel
theorem dX10_nearestRaid_45 : decode cX10_nearestRaid 45 = .ok (.invokestatic 76, 3) := by decide +kernel
theorem dX10_nearestRaid_48 : decode cX10_nearestRaid 48 = .ok (.invokestatic 111, 3) := by decide +kernel
theorem dX10_nearestRaid_51 : decode cX10_nearestRaid 51 = .ok (.istore_n 2, 1) := by decide +kernel
theorem dX10_manyOfRaids_3 : decode cX10_manyOfRaids 3 = .ok (.istore_n 2, 1) := by decide +kernel
theorem dX10_manyOfRaids_2 : decode cX10_manyOfRaids 2 = .ok (.iconst 0, 1) := by decide +kernel
theorem dX10_manyOfRaids_1 : decode cX10_manyOfRaids 1 = .ok (.istore_n 1, 1) := by decide +kernel
theorem dX10_manyOfRaids_0 : decode cX10_manyOfRaids 0 = .ok (.iconst 0, 1) := by decide +kernel
theorem dX10_manyOfRaids_5 : decode cX10_manyOfRaids 5 = .ok (.aload_n 0, 1) := by decide +kernel
theorem dX10_manyOfRaids_4 : decode cX10_manyOfRaids 4 = .ok (.iload_n 2, 1) := by decide +kernel
theorem dX10_manyOfRaids_6 : decode cX10_manyOfRaids 6 = .ok (.getfield 32, 3) := by decide +kernel
theorem dX10_manyOfRaids_9 : decode cX10_manyOfRaids 9 = .ok (.invokevirtual 62, 3) := by decide +kernel
theorem dX10_manyOfRaids_12 : decode cX10_manyOfRaids 12 = .ok (.if_icmp .ge 43, 3) := by decide +kernel
theorem dX10_manyOfRaids_55 : decode cX10_manyOfRaids 55 = .ok (.iload_n 1, 1) := by decide +kernel
theorem dX10_manyOfRaids_56 : decode cX10_manyOfRaids 56 = .ok (.ireturn, 1) := by decide +kernel
theorem dX10_manyOfRaids_18 : decode cX10_manyOfRaids 18 = .ok (.iconst 1, 1) := by decide +kernel
theorem dX10_manyOfRaids_17 : decode cX10_manyOfRaids 17 = .ok (.iload_n 2, 1) := by decide +kernel
theorem dX10_manyOfRaids_16 : decode cX10_manyOfRaids 16 = .ok (.aload_n 0, 1) := by decide +kernel
theorem dX10_manyOfRaids_15 : decode cX10_manyOfRaids 15 = .ok (.iload_n 1, 1) := by decide +kernel
theorem dX10_manyOfRaids_19 : decode cX10_manyOfRaids 19 = .ok (.invokevirtual 104, 3) := by decide +kernel
theorem dX10_manyOfRaids_22 : decode cX10_manyOfRaids 22 = .ok (.ifCond .eq 24, 3) := by decide +kernel
theorem dX10_manyOfRaids_52 : decode cX10_manyOfRaids 52 = .ok (.goto (-48), 3) := by decide +kernel
theorem dX10_manyOfRaids_49 : decode cX10_manyOfRaids 49 = .ok (.iinc 2 1, 3) := by decide +kernel
theorem dX10_manyOfRaids_48 : decode cX10_manyOfRaids 48 = .ok (.istore_n 1, 1) := by decide +kernel
theorem dX10_manyOfRaids_47 : decode cX10_manyOfRaids 47 = .ok (.iadd, 1) := by decide +kernel
theorem dX10_manyOfRaids_46 : decode cX10_manyOfRaids 46 = .ok (.iconst 0, 1) := by decide +kernel
theorem dX10_manyOfRaids_27 : decode cX10_manyOfRaids 27 = .ok (.iconst 0, 1) := by decide +kernel
theorem dX10_manyOfRaids_26 : decode cX10_manyOfRaids 26 = .ok (.iload_n 2, 1) := by decide +kernel
theorem dX10_manyOfRaids_25 : decode cX10_manyOfRaids 25 = .ok (.aload_n 0, 1) := by decide +kernel
theorem dX10_manyOfRaids_28 : decode cX10_manyOfRaids 28 = .ok (.invokevirtual 108, 3) := by decide +kernel
theorem dX10_manyOfRaids_31 : decode cX10_manyOfRaids 31 = .ok (.ifCond .eq 15, 3) := by decide +kernel
theorem dX10_manyOfRaids_34 : decode cX10_manyOfRaids 34 = .ok (.aload_n 0, 1) := by decide +kernel
theorem dX10_manyOfRaids_35 : decode cX10_manyOfRaids 35 = .ok (.getfield 32, 3) := by decide +kernel
theorem dX10_manyOfRaids_39 : decode cX10_manyOfRaids 39 = .ok (.iconst 5, 1) := by decide +kernel
theorem dX10_manyOfRaids_38 : decode cX10_manyOfRaids 38 = .ok (.iload_n 2, 1) := by decide +kernel
theorem dX10_manyOfRaids_40 : decode cX10_manyOfRaids 40 = .ok (.invokevirtual 66, 3) := by decide +kernel
theorem dX10_manyOfRaids_43 : decode cX10_manyOfRaids 43 = .ok (.goto 4, 3) := by decide +kernel
theorem dX10_wails_1 : decode cX10_wails 1 = .ok (.aload_n 0, 1) := by decide +kernel
theorem dX10_wails_0 : decode cX10_wails 0 = .ok (.aload_n 0, 1) := by decide +kernel
theorem dX10_wails_2 : decode cX10_wails 2 = .ok (.getfield 29, 3) := by decide +kernel
theorem dX10_wails_6 : decode cX10_wails 6 = .ok (.iconst 0, 1) := by decide +kernel
theorem dX10_wails_5 : decode cX10_wails 5 = .ok (.iload_n 1, 1) := by decide +kernel
theorem dX10_wails_7 : decode cX10_wails 7 = .ok (.invokevirtual 66, 3) := by decide +kernel
theorem dX10_wails_10 : decode cX10_wails 10 = .ok (.invokevirtual 116, 3) := by decide +kernel
theorem dX10_wails_14 : decode cX10_wails 14 = .ok (.aload_n 0, 1) := by decide +kernel
theorem dX10_wails_13 : decode cX10_wails 13 = .ok (.istore_n 2, 1) := by decide +kernel
theorem dX10_wails_15 : decode cX10_wails 15 = .ok (.getfield 41, 3) := by decide +kernel
theorem dX10_wails_19 : decode cX10_wails 19 = .ok (.aload_n 0, 1) := by decide +kernel
theorem dX10_wails_18 : decode cX10_wails 18 = .ok (.iconst 0, 1) := by decide +kernel
theorem dX10_wails_20 : decode cX10_wails 20 = .ok (.getfield 45, 3) := by decide +kernel
theorem dX10_wails_23 : decode cX10_wails 23 = .ok (.invokevirtual 119, 3) := by decide +kernel
theorem dX10_wails_28 : decode cX10_wails 28 = .ok (.ifCond .ge 16, 3) := by decide +kernel
theorem dX10_wails_27 : decode cX10_wails 27 = .ok (.iload_n 3, 1) := by decide +kernel
theorem dX10_wails_26 : decode cX10_wails 26 = .ok (.istore_n 3, 1) := by decide +kernel
theorem dX10_wails_44 : decode cX10_wails 44 = .ok (.aload_n 0, 1) := by decide +kernel
theorem dX10_wails_45 : decode cX10_wails 45 = .ok (.getfield 41, 3) := by decide +kernel
theorem dX10_wails_50 : decode cX10_wails 50 = .ok (.aload_n 0, 1) := by decide +kernel
theorem dX10_wails_49 : decode cX10_wails 49 = .ok (.iload_n 2, 1) := by decide +kernel
theorem dX10_wails_48 : decode cX10_wails 48 = .ok (.iload_n 3, 1) := by decide +kernel
theorem dX10_wails_51 : decode cX10_wails 51 = .ok (.invokevirtual 122, 3) := by decide +kernel
theorem dX10_wails_33 : decode cX10_wails 33 = .ok (.if_icmp .ge 7, 3) := by decide +kernel
theorem dX10_wails_32 : decode cX10_wails 32 = .ok (.iconst 3, 1) := by decide +kernel
theorem dX10_wails_31 : decode cX10_wails 31 = .ok (.iload_n 2, 1) := by decide +kernel
theorem dX10_wails_41 : decode cX10_wails 41 = .ok (.goto 32, 3) := by decide +kernel
theorem dX10_wails_40 : decode cX10_wails 40 = .ok (.iconst 0, 1) := by decide +kernel
theorem dX10_wails_73 : decode cX10_wails 73 = .ok (.ireturn, 1) := by decide +kernel
theorem dX10_wails_37 : decode cX10_wails 37 = .ok (.goto 36, 3) := by decide +kernel
theorem dX10_wails_36 : decode cX10_wails 36 = .ok (.iconst 1, 1) := by decide +kernel
theorem dX10_wails_54 : decode cX10_wails 54 = .ok (.aload_n 0, 1) := by decide +kernel
theorem dX10_wails_55 : decode cX10_wails 55 = .ok (.getfield 49, 3) := by decide +kernel
theorem dX10_wails_58 : decode cX10_wails 58 = .ok (.aload_n 0, 1) := by decide +kernel
theorem dX10_wails_59 : decode cX10_wails 59 = .ok (.getfield 45, 3) := by decide +kernel
theorem dX10_wails_62 : decode cX10_wails 62 = .ok (.invokevirtual 125, 3) := by decide +kernel
theorem dX10_wails_65 : decode cX10_wails 65 = .ok (.ifCond .eq 7, 3) := by decide +kernel
theorem dX10_wails_72 : decode cX10_wails 72 = .ok (.iconst 0, 1) := by decide +kernel
theorem dX10_wails_69 : decode cX10_wails 69 = .ok (.goto 4, 3) := by decide +kernel
theorem dX10_wails_68 : decode cX10_wails 68 = .ok (.iconst 1, 1) := by decide +kernel
theorem dX10_isHostile_0 : decode cX10_isHostile 0 = .ok (.aload_n 0, 1) := by decide +kernel
theorem dX10_isHostile_1 : decode cX10_isHostile 1 = .ok (.getfield 41, 3) := by decide +kernel
theorem dX10_isHostile_5 : decode cX10_isHostile 5 = .ok (.aload_n 0, 1) := by decide +kernel
theorem dX10_isHostile_4 : decode cX10_isHostile 4 = .ok (.iconst 1, 1) := by decide +kernel
theorem dX10_isHostile_6 : decode cX10_isHostile 6 = .ok (.getfield 45, 3) := by decide +kernel
theorem dX10_isHostile_9 : decode cX10_isHostile 9 = .ok (.invokevirtual 119, 3) := by decide +kernel
theorem dX10_isHostile_14 : decode cX10_isHostile 14 = .ok (.ifCond .ge 18, 3) := by decide +kernel
theorem dX10_isHostile_13 : decode cX10_isHostile 13 = .ok (.iload_n 2, 1) := by decide +kernel
theorem dX10_isHostile_12 : decode cX10_isHostile 12 = .ok (.istore_n 2, 1) := by decide +kernel
theorem dX10_isHostile_32 : decode cX10_isHostile 32 = .ok (.aload_n 0, 1) := by decide +kernel
theorem dX10_isHostile_33 : decode cX10_isHostile 33 = .ok (.getfield 41, 3) := by decide +kernel
theorem dX10_isHostile_37 : decode cX10_isHostile 37 = .ok (.aload_n 0, 1) := by decide +kernel
theorem dX10_isHostile_36 : decode cX10_isHostile 36 = .ok (.iload_n 2, 1) := by decide +kernel
theorem dX10_isHostile_38 : decode cX10_isHostile 38 = .ok (.getfield 32, 3) := by decide +kernel
theorem dX10_isHostile_42 : decode cX10_isHostile 42 = .ok (.iconst 3, 1) := by decide +kernel
theorem dX10_isHostile_41 : decode cX10_isHostile 41 = .ok (.iload_n 1, 1) := by decide +kernel
theorem dX10_isHostile_43 : decode cX10_isHostile 43 = .ok (.invokevirtual 66, 3) := by decide +kernel
theorem dX10_isHostile_19 : decode cX10_isHostile 19 = .ok (.iconst 3, 1) := by decide +kernel
theorem dX10_isHostile_18 : decode cX10_isHostile 18 = .ok (.iload_n 1, 1) := by decide +kernel
theorem dX10_isHostile_17 : decode cX10_isHostile 17 = .ok (.aload_n 0, 1) := by decide +kernel
theorem dX10_isHostile_20 : decode cX10_isHostile 20 = .ok (.invokevirtual 104, 3) := by decide +kernel
theorem dX10_isHostile_46 : decode cX10_isHostile 46 = .ok (.aload_n 0, 1) := by decide +kernel
theorem dX10_isHostile_47 : decode cX10_isHostile 47 = .ok (.getfield 32, 3) := by decide +kernel
theorem dX10_isHostile_51 : decode cX10_isHostile 51 = .ok (.iconst 2, 1) := by decide +kernel
theorem dX10_isHostile_50 : decode cX10_isHostile 50 = .ok (.iload_n 1, 1) := by decide +kernel
theorem dX10_isHostile_52 : decode cX10_isHostile 52 = .ok (.invokevirtual 66, 3) := by decide +kernel
theorem dX10_isHostile_23 : decode cX10_isHostile 23 = .ok (.ifCond .ne 7, 3) := by decide +kernel
theorem dX10_isHostile_27 : decode cX10_isHostile 27 = .ok (.goto 4, 3) := by decide +kernel
theorem dX10_isHostile_26 : decode cX10_isHostile 26 = .ok (.iconst 1, 1) := by decide +kernel
theorem dX10_isHostile_31 : decode cX10_isHostile 31 = .ok (.ireturn, 1) := by decide +kernel
theorem dX10_isHostile_30 : decode cX10_isHostile 30 = .ok (.iconst 0, 1) := by decide +kernel
theorem dX10_isHostile_55 : decode cX10_isHostile 55 = .ok (.aload_n 0, 1) := by decide +kernel
theorem dX10_isHostile_56 : decode cX10_isHostile 56 = .ok (.getfield 32, 3) := by decide +kernel
theorem dX10_isHostile_60 : decode cX10_isHostile 60 = .ok (.bipush 10, 2) := by decide +kernel
theorem dX10_isHostile_59 : decode cX10_isHostile 59 = .ok (.iload_n 1, 1) := by decide +kernel
theorem dX10_isHostile_62 : decode cX10_isHostile 62 = .ok (.invokevirtual 66, 3) := by decide +kernel
theorem dX10_isHostile_65 : decode cX10_isHostile 65 = .ok (.aload_n 0, 1) := by decide +kernel
theorem dX10_isHostile_66 : decode cX10_isHostile 66 = .ok (.getfield 32, 3) := by decide +kernel
theorem dX10_isHostile_70 : decode cX10_isHostile 70 = .ok (.iconst 5, 1) := by decide +kernel
theorem dX10_isHostile_69 : decode cX10_isHostile 69 = .ok (.iload_n 1, 1) := by decide +kernel
theorem dX10_isHostile_71 : decode cX10_isHostile 71 = .ok (.invokevirtual 66, 3) := by decide +kernel
theorem dX10_isHostile_74 : decode cX10_isHostile 74 = .ok (.invokevirtual 125, 3) := by decide +kernel
theorem dX10_isHostile_77 : decode cX10_isHostile 77 = .ok (.ifCond .eq 7, 3) := by decide +kernel
theorem dX10_isHostile_84 : decode cX10_isHostile 84 = .ok (.iconst 0, 1) := by decide +kernel
theorem dX10_isHostile_85 : decode cX10_isHostile 85 = .ok (.ireturn, 1) := by decide +kernel
theorem dX10_isHostile_81 : decode cX10_isHostile 81 = .ok (.goto 4, 3) := by decide +kernel
theorem dX10_isHostile_80 : decode cX10_isHostile 80 = .ok (.iconst 1, 1) := by decide +kernel
theorem dX10_keptDown_0 : decode cX10_keptDown 0 = .ok (.aload_n 0, 1) := by decide +kernel
theorem dX10_keptDown_1 : decode cX10_keptDown 1 = .ok (.getfield 41, 3) := by decide +kernel
theorem dX10_keptDown_5 : decode cX10_keptDown 5 = .ok (.aload_n 0, 1) := by decide +kernel
theorem dX10_keptDown_4 : decode cX10_keptDown 4 = .ok (.iconst 2, 1) := by decide +kernel
theorem dX10_keptDown_6 : decode cX10_keptDown 6 = .ok (.getfield 45, 3) := by decide +kernel
theorem dX10_keptDown_9 : decode cX10_keptDown 9 = .ok (.invokevirtual 119, 3) := by decide +kernel
theorem dX10_keptDown_14 : decode cX10_keptDown 14 = .ok (.ifCond .ge 5, 3) := by decide +kernel
theorem dX10_keptDown_13 : decode cX10_keptDown 13 = .ok (.iload_n 1, 1) := by decide +kernel
theorem dX10_keptDown_12 : decode cX10_keptDown 12 = .ok (.istore_n 1, 1) := by decide +kernel
theorem dX10_keptDown_19 : decode cX10_keptDown 19 = .ok (.aload_n 0, 1) := by decide +kernel
theorem dX10_keptDown_20 : decode cX10_keptDown 20 = .ok (.getfield 41, 3) := by decide +kernel
theorem dX10_keptDown_26 : decode cX10_keptDown 26 = .ok (.iconst 1, 1) := by decide +kernel
theorem dX10_keptDown_25 : decode cX10_keptDown 25 = .ok (.iconst 4, 1) := by decide +kernel
theorem dX10_keptDown_24 : decode cX10_keptDown 24 = .ok (.aload_n 0, 1) := by decide +kernel
theorem dX10_keptDown_23 : decode cX10_keptDown 23 = .ok (.iload_n 1, 1) := by decide +kernel
theorem dX10_keptDown_27 : decode cX10_keptDown 27 = .ok (.invokevirtual 129, 3) := by decide +kernel
theorem dX10_keptDown_17 : decode cX10_keptDown 17 = .ok (.iconst 0, 1) := by decide +kernel
theorem dX10_keptDown_18 : decode cX10_keptDown 18 = .ok (.ireturn, 1) := by decide +kernel
theorem dX10_keptDown_32 : decode cX10_keptDown 32 = .ok (.iconst 0, 1) := by decide +kernel
theorem dX10_keptDown_31 : decode cX10_keptDown 31 = .ok (.iconst 4, 1) := by decide +kernel
theorem dX10_keptDown_30 : decode cX10_keptDown 30 = .ok (.aload_n 0, 1) := by decide +kernel
theorem dX10_keptDown_33 : decode cX10_keptDown 33 = .ok (.invokevirtual 129, 3) := by decide +kernel
theorem dX10_keptDown_37 : decode cX10_keptDown 37 = .ok (.iconst 0, 1) := by decide +kernel
theorem dX10_keptDown_36 : decode cX10_keptDown 36 = .ok (.iconst 0, 1) := by decide +kernel
theorem dX10_keptDown_38 : decode cX10_keptDown 38 = .ok (.invokevirtual 125, 3) := by decide +kernel
theorem dX10_keptDown_44 : decode cX10_keptDown 44 = .ok (.bipush 16, 2) := by decide +kernel
theorem dX10_keptDown_43 : decode cX10_keptDown 43 = .ok (.iload_n 2, 1) := by decide +kernel
theorem dX10_keptDown_42 : decode cX10_keptDown 42 = .ok (.iconst 0, 1) := by decide +kernel
theorem dX10_keptDown_41 : decode cX10_keptDown 41 = .ok (.istore_n 2, 1) := by decide +kernel
theorem dX10_keptDown_46 : decode cX10_keptDown 46 = .ok (.invokestatic 111, 3) := by decide +kernel
theorem dX10_keptDown_49 : decode cX10_keptDown 49 = .ok (.invokestatic 132, 3) := by decide +kernel
theorem dX10_keptDown_52 : decode cX10_keptDown 52 = .ok (.ireturn, 1) := by decide +kernel
theorem dX10_isArmed_0 : decode cX10_isArmed 0 = .ok (.aload_n 0, 1) := by decide +kernel
theorem dX10_isArmed_1 : decode cX10_isArmed 1 = .ok (.getfield 32, 3) := by decide +kernel
theorem dX10_isArmed_5 : decode cX10_isArmed 5 = .ok (.bipush 8, 2) := by decide +kernel
theorem dX10_isArmed_4 : decode cX10_isArmed 4 = .ok (.iload_n 1, 1) := by decide +kernel
theorem dX10_isArmed_7 : decode cX10_isArmed 7 = .ok (.invokevirtual 66, 3) := by decide +kernel
theorem dX10_isArmed_10 : decode cX10_isArmed 10 = .ok (.ifCond .le 20, 3) := by decide +kernel
theorem dX10_isArmed_30 : decode cX10_isArmed 30 = .ok (.iconst 0, 1) := by decide +kernel
theorem dX10_isArmed_31 : decode cX10_isArmed 31 = .ok (.ireturn, 1) := by decide +kernel
theorem dX10_isArmed_13 : decode cX10_isArmed 13 = .ok (.aload_n 0, 1) := by decide +kernel
theorem dX10_isArmed_14 : decode cX10_isArmed 14 = .ok (.getfield 32, 3) := by decide +kernel
theorem dX10_isArmed_18 : decode cX10_isArmed 18 = .ok (.bipush 7, 2) := by decide +kernel
theorem dX10_isArmed_17 : decode cX10_isArmed 17 = .ok (.iload_n 1, 1) := by decide +kernel
theorem dX10_isArmed_20 : decode cX10_isArmed 20 = .ok (.invokevirtual 66, 3) := by decide +kernel
theorem dX10_isArmed_23 : decode cX10_isArmed 23 = .ok (.ifCond .le 7, 3) := by decide +kernel
theorem dX10_isArmed_27 : decode cX10_isArmed 27 = .ok (.goto 4, 3) := by decide +kernel
theorem dX10_isArmed_26 : decode cX10_isArmed 26 = .ok (.iconst 1, 1) := by decide +kernel
theorem dX10_minutesToMeet_1 : decode cX10_minutesToMeet 1 = .ok (.iload_n 1, 1) := by decide +kernel
theorem dX10_minutesToMeet_0 : decode cX10_minutesToMeet 0 = .ok (.aload_n 0, 1) := by decide +kernel
theorem dX10_minutesToMeet_2 : decode cX10_minutesToMeet 2 = .ok (.invokevirtual 135, 3) := by decide +kernel
theorem dX10_minutesToMeet_5 : decode cX10_minutesToMeet 5 = .ok (.ifCond .ne 5, 3) := by decide +kernel
theorem dX10_minutesToMeet_8 : decode cX10_minutesToMeet 8 = .ok (.iconst (-1), 1) := by decide +kernel
theorem dX10_minutesToMeet_9 : decode cX10_minutesToMeet 9 = .ok (.ireturn, 1) := by decide +kernel
theorem dX10_minutesToMeet_12 : decode cX10_minutesToMeet 12 = .ok (.aload_n 0, 1) := by decide +kernel
theorem dX10_minutesToMeet_10 : decode cX10_minutesToMeet 10 = .ok (.bipush 60, 2) := by decide +kernel
theorem dX10_minutesToMeet_13 : decode cX10_minutesToMeet 13 = .ok (.getfield 32, 3) := by decide +kernel
theorem dX10_minutesToMeet_17 : decode cX10_minutesToMeet 17 = .ok (.bipush 7, 2) := by decide +kernel
theorem dX10_minutesToMeet_16 : decode cX10_minutesToMeet 16 = .ok (.iload_n 1, 1) := by decide +kernel
theorem dX10_minutesToMeet_19 : decode cX10_minutesToMeet 19 = .ok (.invokevirtual 66, 3) := by decide +kernel
theorem dX10_minutesToMeet_22 : decode cX10_minutesToMeet 22 = .ok (.invokestatic 111, 3) := by decide +kernel
theorem dX10_minutesToMeet_26 : decode cX10_minutesToMeet 26 = .ok (.aload_n 0, 1) := by decide +kernel
theorem dX10_minutesToMeet_25 : decode cX10_minutesToMeet 25 = .ok (.istore_n 3, 1) := by decide +kernel
theorem dX10_minutesToMeet_27 : decode cX10_minutesToMeet 27 = .ok (.getfield 32, 3) := by decide +kernel
theorem dX10_minutesToMeet_31 : decode cX10_minutesToMeet 31 = .ok (.iconst 1, 1) := by decide +kernel
theorem dX10_minutesToMeet_30 : decode cX10_minutesToMeet 30 = .ok (.iload_n 1, 1) := by decide +kernel
theorem dX10_minutesToMeet_32 : decode cX10_minutesToMeet 32 = .ok (.invokevirtual 66, 3) := by decide +kernel
theorem dX10_minutesToMeet_37 : decode cX10_minutesToMeet 37 = .ok (.aload_n 0, 1) := by decide +kernel
theorem dX10_minutesToMeet_35 : decode cX10_minutesToMeet 35 = .ok (.istore 4, 2) := by decide +kernel
theorem dX10_minutesToMeet_38 : decode cX10_minutesToMeet 38 = .ok (.getfield 32, 3) := by decide +kernel
theorem dX10_minutesToMeet_42 : decode cX10_minutesToMeet 42 = .ok (.iconst 2, 1) := by decide +kernel
theorem dX10_minutesToMeet_41 : decode cX10_minutesToMeet 41 = .ok (.iload_n 1, 1) := by decide +kernel
theorem dX10_minutesToMeet_43 : decode cX10_minutesToMeet 43 = .ok (.invokevirtual 66, 3) := by decide +kernel
theorem dX10_minutesToMeet_48 : decode cX10_minutesToMeet 48 = .ok (.aload_n 0, 1) := by decide +kernel
theorem dX10_minutesToMeet_46 : decode cX10_minutesToMeet 46 = .ok (.istore 5, 2) := by decide +kernel
theorem dX10_minutesToMeet_49 : decode cX10_minutesToMeet 49 = .ok (.getfield 32, 3) := by decide +kernel
theorem dX10_minutesToMeet_53 : decode cX10_minutesToMeet 53 = .ok (.iconst 1, 1) := by decide +kernel
theorem dX10_minutesToMeet_52 : decode cX10_minutesToMeet 52 = .ok (.iload_n 2, 1) := by decide +kernel
theorem dX10_minutesToMeet_54 : decode cX10_minutesToMeet 54 = .ok (.invokevirtual 66, 3) := by decide +kernel
theorem dX10_minutesToMeet_59 : decode cX10_minutesToMeet 59 = .ok (.aload_n 0, 1) := by decide +kernel
theorem dX10_minutesToMeet_57 : decode cX10_minutesToMeet 57 = .ok (.istore 6, 2) := by decide +kernel
theorem dX10_minutesToMeet_60 : decode cX10_minutesToMeet 60 = .ok (.getfield 32, 3) := by decide +kernel
theorem dX10_minutesToMeet_64 : decode cX10_minutesToMeet 64 = .ok (.iconst 2, 1) := by decide +kernel
theorem dX10_minutesToMeet_63 : decode cX10_minutesToMeet 63 = .ok (.iload_n 2, 1) := by decide +kernel
theorem dX10_minutesToMeet_65 : decode cX10_minutesToMeet 65 = .ok (.invokevirtual 66, 3) := by decide +kernel
theorem dX10_minutesToMeet_71 : decode cX10_minutesToMeet 71 = .ok (.istore 8, 2) := by decide +kernel
theorem dX10_minutesToMeet_70 : decode cX10_minutesToMeet 70 = .ok (.iconst 1, 1) := by decide +kernel
theorem dX10_minutesToMeet_68 : decode cX10_minutesToMeet 68 = .ok (.istore 7, 2) := by decide +kernel
theorem dX10_minutesToMeet_76 : decode cX10_minutesToMeet 76 = .ok (.if_icmp .gt 76, 3) := by decide +kernel
theorem dX10_minutesToMeet_75 : decode cX10_minutesToMeet 75 = .ok (.iload_n 3, 1) := by decide +kernel
theorem dX10_minutesToMeet_73 : decode cX10_minutesToMeet 73 = .ok (.iload 8, 2) := by decide +kernel
theorem dX10_minutesToMeet_152 : decode cX10_minutesToMeet 152 = .ok (.iconst (-1), 1) := by decide +kernel
theorem dX10_minutesToMeet_153 : decode cX10_minutesToMeet 153 = .ok (.ireturn, 1) := by decide +kernel
theorem dX10_minutesToMeet_81 : decode cX10_minutesToMeet 81 = .ok (.aload_n 0, 1) := by decide +kernel
theorem dX10_minutesToMeet_79 : decode cX10_minutesToMeet 79 = .ok (.iload 6, 2) := by decide +kernel
theorem dX10_minutesToMeet_82 : decode cX10_minutesToMeet 82 = .ok (.getfield 32, 3) := by decide +kernel
theorem dX10_minutesToMeet_86 : decode cX10_minutesToMeet 86 = .ok (.iconst 4, 1) := by decide +kernel
theorem dX10_minutesToMeet_85 : decode cX10_minutesToMeet 85 = .ok (.iload_n 2, 1) := by decide +kernel
theorem dX10_minutesToMeet_87 : decode cX10_minutesToMeet 87 = .ok (.invokevirtual 66, 3) := by decide +kernel
theorem dX10_minutesToMeet_90 : decode cX10_minutesToMeet 90 = .ok (.aload_n 0, 1) := by decide +kernel
theorem dX10_minutesToMeet_91 : decode cX10_minutesToMeet 91 = .ok (.getfield 32, 3) := by decide +kernel
theorem dX10_minutesToMeet_95 : decode cX10_minutesToMeet 95 = .ok (.iconst 3, 1) := by decide +kernel
theorem dX10_minutesToMeet_94 : decode cX10_minutesToMeet 94 = .ok (.iload_n 2, 1) := by decide +kernel
theorem dX10_minutesToMeet_96 : decode cX10_minutesToMeet 96 = .ok (.invokevirtual 66, 3) := by decide +kernel
theorem dX10_minutesToMeet_99 : decode cX10_minutesToMeet 99 = .ok (.invokestatic 138, 3) := by decide +kernel
theorem dX10_minutesToMeet_106 : decode cX10_minutesToMeet 106 = .ok (.ifCond .ge 5, 3) := by decide +kernel
theorem dX10_minutesToMeet_104 : decode cX10_minutesToMeet 104 = .ok (.iload 6, 2) := by decide +kernel
theorem dX10_minutesToMeet_102 : decode cX10_minutesToMeet 102 = .ok (.istore 6, 2) := by decide +kernel
theorem dX10_minutesToMeet_113 : decode cX10_minutesToMeet 113 = .ok (.iload 7, 2) := by decide +kernel
theorem dX10_minutesToMeet_111 : decode cX10_minutesToMeet 111 = .ok (.iload 5, 2) := by decide +kernel
theorem dX10_minutesToMeet_115 : decode cX10_minutesToMeet 115 = .ok (.invokestatic 142, 3) := by decide +kernel
theorem dX10_minutesToMeet_109 : decode cX10_minutesToMeet 109 = .ok (.iconst (-1), 1) := by decide +kernel
theorem dX10_minutesToMeet_110 : decode cX10_minutesToMeet 110 = .ok (.ireturn, 1) := by decide +kernel
theorem dX10_minutesToMeet_122 : decode cX10_minutesToMeet 122 = .ok (.iload 6, 2) := by decide +kernel
theorem dX10_minutesToMeet_120 : decode cX10_minutesToMeet 120 = .ok (.iload 4, 2) := by decide +kernel
theorem dX10_minutesToMeet_118 : decode cX10_minutesToMeet 118 = .ok (.istore 5, 2) := by decide +kernel
theorem dX10_minutesToMeet_124 : decode cX10_minutesToMeet 124 = .ok (.invokestatic 145, 3) := by decide +kernel
theorem dX10_minutesToMeet_135 : decode cX10_minutesToMeet 135 = .ok (.iload 7, 2) := by decide +kernel
theorem dX10_minutesToMeet_133 : decode cX10_minutesToMeet 133 = .ok (.iload 6, 2) := by decide +kernel
theorem dX10_minutesToMeet_131 : decode cX10_minutesToMeet 131 = .ok (.iload 5, 2) := by decide +kernel
theorem dX10_minutesToMeet_129 : decode cX10_minutesToMeet 129 = .ok (.iload 4, 2) := by decide +kernel
theorem dX10_minutesToMeet_127 : decode cX10_minutesToMeet 127 = .ok (.istore 4, 2) := by decide +kernel
theorem dX10_minutesToMeet_137 : decode cX10_minutesToMeet 137 = .ok (.invokestatic 148, 3) := by decide +kernel
theorem dX10_minutesToMeet_140 : decode cX10_minutesToMeet 140 = .ok (.ifCond .eq 6, 3) := by decide +kernel
theorem dX10_minutesToMeet_149 : decode cX10_minutesToMeet 149 = .ok (.goto (-76), 3) := by decide +kernel
theorem dX10_minutesToMeet_146 : decode cX10_minutesToMeet 146 = .ok (.iinc 8 1, 3) := by decide +kernel
theorem dX10_minutesToMeet_143 : decode cX10_minutesToMeet 143 = .ok (.iload 8, 2) := by decide +kernel
theorem dX10_minutesToMeet_145 : decode cX10_minutesToMeet 145 = .ok (.ireturn, 1) := by decide +kernel
theorem dX10_meets_2 : decode cX10_meets 2 = .ok (.if_icmp .lt 16, 3) := by decide +kernel
theorem dX10_meets_1 : decode cX10_meets 1 = .ok (.iload_n 3, 1) := by decide +kernel
theorem dX10_meets_0 : decode cX10_meets 0 = .ok (.iload_n 1, 1) := by decide +kernel
theorem dX10_meets_18 : decode cX10_meets 18 = .ok (.iconst 0, 1) := by decide +kernel
theorem dX10_meets_19 : decode cX10_meets 19 = .ok (.ireturn, 1) := by decide +kernel
theorem dX10_meets_6 : decode cX10_meets 6 = .ok (.iload_n 2, 1) := by decide +kernel
theorem dX10_meets_5 : decode cX10_meets 5 = .ok (.iload_n 0, 1) := by decide +kernel
theorem dX10_meets_7 : decode cX10_meets 7 = .ok (.invokestatic 76, 3) := by decide +kernel
theorem dX10_meets_11 : decode cX10_meets 11 = .ok (.if_icmp .gt 7, 3) := by decide +kernel
theorem dX10_meets_10 : decode cX10_meets 10 = .ok (.iconst 1, 1) := by decide +kernel
theorem dX10_meets_15 : decode cX10_meets 15 = .ok (.goto 4, 3) := by decide +kernel
theorem dX10_meets_14 : decode cX10_meets 14 = .ok (.iconst 1, 1) := by decide +kernel
theorem W_n0_8 {w : Nat} (hw : q_W w) : q_ref w 8 = none := by rcases hw with rfl | rfl | rfl <;> rfl
theorem W_is0 {w : Nat} (hw : q_W w) : q_is w 8 := by rcases hw with rfl | rfl | rfl <;> exact ⟨by decide, rfl⟩
theorem W_r0_5 {w : Nat} (hw : q_W w) : q_ref w 5 = some (w + 11) := by rcases hw with rfl | rfl | rfl <;> rfl
theorem W_is11 {w : Nat} (hw : q_W w) : q_is (w + 11) 5 := by rcases hw with rfl | rfl | rfl <;> exact ⟨by decide, rfl⟩
theorem W_r0_4 {w : Nat} (hw : q_W w) : q_ref w 4 = some (w + 9) := by rcases hw with rfl | rfl | rfl <;> rfl
theorem W_is9 {w : Nat} (hw : q_W w) : q_is (w + 9) 5 := by rcases hw with rfl | rfl | rfl <;> exact ⟨by decide, rfl⟩
theorem W_r0_3 {w : Nat} (hw : q_W w) : q_ref w 3 = some (w + 7) := by rcases hw with rfl | rfl | rfl <;> rfl
theorem W_is7 {w : Nat} (hw : q_W w) : q_is (w + 7) 5 := by rcases hw with rfl | rfl | rfl <;> exact ⟨by decide, rfl⟩
theorem W_r15_0 {w : Nat} (hw : q_W w) : q_ref (w + 15) 0 = some (w + 16) := by rcases hw with rfl | rfl | rfl <;> rfl
theorem W_is15 {w : Nat} (hw : q_W w) : q_is (w + 15) 3 := by rcases hw with rfl | rfl | rfl <;> exact ⟨by decide, rfl⟩
theorem W_is16 {w : Nat} (hw : q_W w) : q_is (w + 16) 5 := by rcases hw with rfl | rfl | rfl <;> exact ⟨by decide, rfl⟩
theorem W_r15_1 {w : Nat} (hw : q_W w) : q_ref (w + 15) 1 = some (w + 18) := by rcases hw with rfl | rfl | rfl <;> rfl
theorem W_is18 {w : Nat} (hw : q_W w) : q_is (w + 18) 5 := by rcases hw with rfl | rfl | rfl <;> exact ⟨by decide, rfl⟩
theorem W_r15_2 {w : Nat} (hw : q_W w) : q_ref (w + 15) 2 = some (w + 20) := by rcases hw with rfl | rfl | rfl <;> rfl
theorem W_a20 {w : Nat} (hw : q_W w) : q_ar (w + 20) 4 := by rcases hw with rfl | rfl | rfl <;> exact ⟨by decide, rfl, rfl⟩
theorem W_r15_3 {w : Nat} (hw : q_W w) : q_ref (w + 15) 3 = some (w + 21) := by rcases hw with rfl | rfl | rfl <;> rfl
theorem W_a21 {w : Nat} (hw : q_W w) : q_ar (w + 21) 50 := by rcases hw with rfl | rfl | rfl <;> exact ⟨by decide, rfl, rfl⟩
theorem W_r0_0 {w : Nat} (hw : q_W w) : q_ref w 0 = some (w + 1) := by rcases hw with rfl | rfl | rfl <;> rfl
theorem W_is1 {w : Nat} (hw : q_W w) : q_is (w + 1) 5 := by rcases hw with rfl | rfl | rfl <;> exact ⟨by decide, rfl⟩
theorem W_r0_1 {w : Nat} (hw : q_W w) : q_ref w 1 = some (w + 3) := by rcases hw with rfl | rfl | rfl <;> rfl
theorem W_is3 {w : Nat} (hw : q_W w) : q_is (w + 3) 5 := by rcases hw with rfl | rfl | rfl <;> exact ⟨by decide, rfl⟩
theorem W_r0_2 {w : Nat} (hw : q_W w) : q_ref w 2 = some (w + 5) := by rcases hw with rfl | rfl | rfl <;> rfl
theorem W_is5 {w : Nat} (hw : q_W w) : q_is (w + 5) 5 := by rcases hw with rfl | rfl | rfl <;> exact ⟨by decide, rfl⟩
theorem W_r0_6 {w : Nat} (hw : q_W w) : q_ref w 6 = some (w + 13) := by rcases hw with rfl | rfl | rfl <;> rfl
theorem W_is13 {w : Nat} (hw : q_W w) : q_is (w + 13) 5 := by rcases hw with rfl | rfl | rfl <;> exact ⟨by decide, rfl⟩
theorem W_r0_7 {w : Nat} (hw : q_W w) : q_ref w 7 = some (w + 15) := by rcases hw with rfl | rfl | rfl <;> rfl
theorem W_n0_9 {w : Nat} (hw : q_W w) : q_ref w 9 = none := by rcases hw with rfl | rfl | rfl <;> rfl
theorem W_n0_10 {w : Nat} (hw : q_W w) : q_ref w 10 = none := by rcases hw with rfl | rfl | rfl <;> rfl
theorem B_X2_pass_0 {o : q_H} {w : Nat} (hw : q_W w) (d : Nat) (g : Nat → Nat → Int32) : q_sem (d) mX2_pass 0 [.ref w, .retAddr 0] [] (q_K o g) = q_sem (d) mX2_pass 12 [.ref w, .int 0] [] (q_K o (q_up g w 8 ((g w 8) + 1))) := by
  refine (q_blk (Y := mX2_pass) (q_dcC dX2_pass_0 (q_dcC dX2_pass_1 q_dcN)) (show _ = some (2, [.ref w, .retAddr 0], [.ref w, .ref w]) from rfl)).trans ?_
  refine (k_geti (Y := mX2_pass) dX2_pass_2 rfl rfl (W_is0 hw) (by decide) (W_n0_8 hw)).trans ?_
  refine (q_blk (Y := mX2_pass) (q_dcC dX2_pass_5 (q_dcC dX2_pass_6 q_dcN)) (show _ = some (7, [.ref w, .retAddr 0], [.int ((g w 8) + 1), .ref w]) from rfl)).trans ?_
  refine (k_puti (Y := mX2_pass) dX2_pass_7 rfl (W_is0 hw) (by decide) (W_n0_8 hw) rfl rfl rfl).trans ?_
  refine (q_blk (Y := mX2_pass) (q_dcC dX2_pass_10 (q_dcC dX2_pass_11 q_dcN)) (show _ = some (12, [.ref w, .int 0], []) from rfl)).trans ?_
  rfl
theorem B_X2_pass_12 {o : q_H} {w : Nat} (hw : q_W w) (d : Nat) (x1 : Int32) (g : Nat → Nat → Int32) : q_sem (d + 1) mX2_pass 12 [.ref w, .int x1] [] (q_K o g) = (q_sem d mX7_size 0 [.ref (w + 11)] [] (q_K o g)).bind (fun r => q_sem (d + 1) mX2_pass 20 [.ref w, .int x1] (r.1.toList ++ [.int x1]) r.2) := by
  refine (q_blk (Y := mX2_pass) (q_dcC dX2_pass_12 (q_dcC dX2_pass_13 q_dcN)) (show _ = some (14, [.ref w, .int x1], [.ref w, .int x1]) from rfl)).trans ?_
  refine (k_getr (Y := mX2_pass) dX2_pass_14 rfl rfl (W_is0 hw) (by decide) (W_r0_5 hw)).trans ?_
  exact K_calV (d := d) (Y := mX2_pass) (Z := mX7_size) (vs := []) (rest := [.int x1]) (la := [.ref (w + 11)]) dX2_pass_17 rfl rfl rfl rfl (W_is11 hw) (Nat.le_of_ble_eq_true rfl) rfl (Nat.le_of_ble_eq_true rfl)
theorem B_X2_pass_20 {o : q_H} {w : Nat} (hw : q_W w) (d : Nat) (x1 y0 y1 : Int32) (g : Nat → Nat → Int32) : q_sem (d + 1) mX2_pass 20 [.ref w, .int x1] [.int y0, .int y1] (q_K o g) = (if y0 ≤ y1 then q_sem (d + 1) mX2_pass 54 [.ref w, .int 0] [] (q_K o g) else (q_sem d mX10_stands 0 [.ref w, .int x1, .int 0] [] (q_K o g)).bind (fun r => q_sem (d + 1) mX2_pass 29 [.ref w, .int x1] (r.1.toList ++ []) r.2)) := by
  refine (q_blk (Y := mX2_pass) (q_dcC dX2_pass_20 q_dcN) (show _ = some ((if q_cc .ge y1 y0 = true then 52 else 23), [.ref w, .int x1], []) from rfl)).trans ?_
  by_cases c1 : y0 ≤ y1
  · rw [if_pos (show q_cc .ge y1 y0 = true from decide_eq_true c1)]
    refine Eq.trans ?_ (if_pos c1).symm
    refine (q_blk (Y := mX2_pass) (q_dcC dX2_pass_52 (q_dcC dX2_pass_53 q_dcN)) (show _ = some (54, [.ref w, .int 0], []) from rfl)).trans ?_
    rfl
  · rw [if_neg (show ¬ q_cc .ge y1 y0 = true from fun z => c1 (of_decide_eq_true z))]
    refine Eq.trans ?_ (if_neg c1).symm
    refine (q_blk (Y := mX2_pass) (q_dcC dX2_pass_23 (q_dcC dX2_pass_24 (q_dcC dX2_pass_25 q_dcN))) (show _ = some (26, [.ref w, .int x1], [.int 0, .int x1, .ref w]) from rfl)).trans ?_
    exact K_calV (d := d) (Y := mX2_pass) (Z := mX10_stands) (vs := [.int x1, .int 0]) (rest := []) (la := [.ref w, .int x1, .int 0]) dX2_pass_26 rfl rfl rfl rfl (W_is0 hw) (Nat.le_of_ble_eq_true rfl) rfl (Nat.le_of_ble_eq_true rfl)
theorem B_X2_pass_54 {o : q_H} {w : Nat} (hw : q_W w) (d : Nat) (x1 : Int32) (g : Nat → Nat → Int32) : q_sem (d + 1) mX2_pass 54 [.ref w, .int x1] [] (q_K o g) = (q_sem d mX7_size 0 [.ref (w + 11)] [] (q_K o g)).bind (fun r => q_sem (d + 1) mX2_pass 62 [.ref w, .int x1] (r.1.toList ++ [.int x1]) r.2) := by
  refine (q_blk (Y := mX2_pass) (q_dcC dX2_pass_54 (q_dcC dX2_pass_55 q_dcN)) (show _ = some (56, [.ref w, .int x1], [.ref w, .int x1]) from rfl)).trans ?_
  refine (k_getr (Y := mX2_pass) dX2_pass_56 rfl rfl (W_is0 hw) (by decide) (W_r0_5 hw)).trans ?_
  exact K_calV (d := d) (Y := mX2_pass) (Z := mX7_size) (vs := []) (rest := [.int x1]) (la := [.ref (w + 11)]) dX2_pass_59 rfl rfl rfl rfl (W_is11 hw) (Nat.le_of_ble_eq_true rfl) rfl (Nat.le_of_ble_eq_true rfl)
theorem B_X2_pass_29 {o : q_H} {w : Nat} (hw : q_W w) (d : Nat) (x1 y0 : Int32) (g : Nat → Nat → Int32) : q_sem (d + 1) mX2_pass 29 [.ref w, .int x1] [.int y0] (q_K o g) = (if y0 = 0 then q_sem (d + 1) mX2_pass 12 [.ref w, .int (x1 + 1)] [] (q_K o g) else (q_sem d mX10_isA 0 [.ref w, .int x1, .int 4, .retAddr 0, .retAddr 0] [] (q_K o g)).bind (fun r => q_sem (d + 1) mX2_pass 38 [.ref w, .int x1] (r.1.toList ++ []) r.2)) := by
  refine (q_blk (Y := mX2_pass) (q_dcC dX2_pass_29 q_dcN) (show _ = some ((if q_cc .eq y0 0 = true then 46 else 32), [.ref w, .int x1], []) from rfl)).trans ?_
  by_cases c1 : y0 = 0
  · rw [if_pos (show q_cc .eq y0 0 = true from decide_eq_true c1)]
    refine Eq.trans ?_ (if_pos c1).symm
    refine (q_blk (Y := mX2_pass) (q_dcC dX2_pass_46 (q_dcC dX2_pass_49 q_dcN)) (show _ = some (12, [.ref w, .int (x1 + 1)], []) from rfl)).trans ?_
    rfl
  · rw [if_neg (show ¬ q_cc .eq y0 0 = true from fun z => c1 (of_decide_eq_true z))]
    refine Eq.trans ?_ (if_neg c1).symm
    refine (q_blk (Y := mX2_pass) (q_dcC dX2_pass_32 (q_dcC dX2_pass_33 (q_dcC dX2_pass_34 q_dcN))) (show _ = some (35, [.ref w, .int x1], [.int 4, .int x1, .ref w]) from rfl)).trans ?_
    exact K_calV (d := d) (Y := mX2_pass) (Z := mX10_isA) (vs := [.int x1, .int 4]) (rest := []) (la := [.ref w, .int x1, .int 4, .retAddr 0, .retAddr 0]) dX2_pass_35 rfl rfl rfl rfl (W_is0 hw) (Nat.le_of_ble_eq_true rfl) rfl (Nat.le_of_ble_eq_true rfl)
theorem B_X2_pass_62 {o : q_H} {w : Nat} (hw : q_W w) (d : Nat) (x1 y0 y1 : Int32) (g : Nat → Nat → Int32) : q_sem (d + 1) mX2_pass 62 [.ref w, .int x1] [.int y0, .int y1] (q_K o g) = (if y0 ≤ y1 then q_sem (d + 1) mX2_pass 96 [.ref w, .int 0] [] (q_K o g) else (q_sem d mX10_stands 0 [.ref w, .int x1, .int 0] [] (q_K o g)).bind (fun r => q_sem (d + 1) mX2_pass 71 [.ref w, .int x1] (r.1.toList ++ []) r.2)) := by
  refine (q_blk (Y := mX2_pass) (q_dcC dX2_pass_62 q_dcN) (show _ = some ((if q_cc .ge y1 y0 = true then 94 else 65), [.ref w, .int x1], []) from rfl)).trans ?_
  by_cases c1 : y0 ≤ y1
  · rw [if_pos (show q_cc .ge y1 y0 = true from decide_eq_true c1)]
    refine Eq.trans ?_ (if_pos c1).symm
    refine (q_blk (Y := mX2_pass) (q_dcC dX2_pass_94 (q_dcC dX2_pass_95 q_dcN)) (show _ = some (96, [.ref w, .int 0], []) from rfl)).trans ?_
    rfl
  · rw [if_neg (show ¬ q_cc .ge y1 y0 = true from fun z => c1 (of_decide_eq_true z))]
    refine Eq.trans ?_ (if_neg c1).symm
    refine (q_blk (Y := mX2_pass) (q_dcC dX2_pass_65 (q_dcC dX2_pass_66 (q_dcC dX2_pass_67 q_dcN))) (show _ = some (68, [.ref w, .int x1], [.int 0, .int x1, .ref w]) from rfl)).trans ?_
    exact K_calV (d := d) (Y := mX2_pass) (Z := mX10_stands) (vs := [.int x1, .int 0]) (rest := []) (la := [.ref w, .int x1, .int 0]) dX2_pass_68 rfl rfl rfl rfl (W_is0 hw) (Nat.le_of_ble_eq_true rfl) rfl (Nat.le_of_ble_eq_true rfl)
theorem B_X2_pass_38 {o : q_H} {w : Nat} (hw : q_W w) (d : Nat) (x1 y0 : Int32) (g : Nat → Nat → Int32) : q_sem (d + 1) mX2_pass 38 [.ref w, .int x1] [.int y0] (q_K o g) = (if y0 = 0 then (q_sem d mX2_goOn 0 [.ref w, .int x1, .retAddr 0, .retAddr 0] [] (q_K o g)).bind (fun r => q_sem (d + 1) mX2_pass 46 [.ref w, .int x1] (r.1.toList ++ []) r.2) else q_sem (d + 1) mX2_pass 12 [.ref w, .int (x1 + 1)] [] (q_K o g)) := by
  refine (q_blk (Y := mX2_pass) (q_dcC dX2_pass_38 q_dcN) (show _ = some ((if q_cc .ne y0 0 = true then 46 else 41), [.ref w, .int x1], []) from rfl)).trans ?_
  by_cases c1 : y0 = 0
  · rw [if_neg (show ¬ q_cc .ne y0 0 = true from fun z => (of_decide_eq_true z : ¬ y0 = 0) c1)]
    refine Eq.trans ?_ (if_pos c1).symm
    refine (q_blk (Y := mX2_pass) (q_dcC dX2_pass_41 (q_dcC dX2_pass_42 q_dcN)) (show _ = some (43, [.ref w, .int x1], [.int x1, .ref w]) from rfl)).trans ?_
    exact K_calS (d := d) (Y := mX2_pass) (Z := mX2_goOn) (vs := [.ref w, .int x1]) (rest := []) (la := [.ref w, .int x1, .retAddr 0, .retAddr 0]) dX2_pass_43 rfl rfl rfl rfl (Nat.le_of_ble_eq_true rfl) rfl (Nat.le_of_ble_eq_true rfl)
  · rw [if_pos (show q_cc .ne y0 0 = true from decide_eq_true c1)]
    refine Eq.trans ?_ (if_neg c1).symm
    refine (q_blk (Y := mX2_pass) (q_dcC dX2_pass_46 (q_dcC dX2_pass_49 q_dcN)) (show _ = some (12, [.ref w, .int (x1 + 1)], []) from rfl)).trans ?_
    rfl
theorem B_X2_pass_96 {o : q_H} {w : Nat} (hw : q_W w) (d : Nat) (x1 : Int32) (g : Nat → Nat → Int32) : q_sem (d + 1) mX2_pass 96 [.ref w, .int x1] [] (q_K o g) = (q_sem d mX7_size 0 [.ref (w + 9)] [] (q_K o g)).bind (fun r => q_sem (d + 1) mX2_pass 104 [.ref w, .int x1] (r.1.toList ++ [.int x1]) r.2) := by
  refine (q_blk (Y := mX2_pass) (q_dcC dX2_pass_96 (q_dcC dX2_pass_97 q_dcN)) (show _ = some (98, [.ref w, .int x1], [.ref w, .int x1]) from rfl)).trans ?_
  refine (k_getr (Y := mX2_pass) dX2_pass_98 rfl rfl (W_is0 hw) (by decide) (W_r0_4 hw)).trans ?_
  exact K_calV (d := d) (Y := mX2_pass) (Z := mX7_size) (vs := []) (rest := [.int x1]) (la := [.ref (w + 9)]) dX2_pass_101 rfl rfl rfl rfl (W_is9 hw) (Nat.le_of_ble_eq_true rfl) rfl (Nat.le_of_ble_eq_true rfl)
theorem B_X2_pass_71 {o : q_H} {w : Nat} (hw : q_W w) (d : Nat) (x1 y0 : Int32) (g : Nat → Nat → Int32) : q_sem (d + 1) mX2_pass 71 [.ref w, .int x1] [.int y0] (q_K o g) = (if y0 = 0 then q_sem (d + 1) mX2_pass 54 [.ref w, .int (x1 + 1)] [] (q_K o g) else (q_sem d mX10_isA 0 [.ref w, .int x1, .int 4, .retAddr 0, .retAddr 0] [] (q_K o g)).bind (fun r => q_sem (d + 1) mX2_pass 80 [.ref w, .int x1] (r.1.toList ++ []) r.2)) := by
  refine (q_blk (Y := mX2_pass) (q_dcC dX2_pass_71 q_dcN) (show _ = some ((if q_cc .eq y0 0 = true then 88 else 74), [.ref w, .int x1], []) from rfl)).trans ?_
  by_cases c1 : y0 = 0
  · rw [if_pos (show q_cc .eq y0 0 = true from decide_eq_true c1)]
    refine Eq.trans ?_ (if_pos c1).symm
    refine (q_blk (Y := mX2_pass) (q_dcC dX2_pass_88 (q_dcC dX2_pass_91 q_dcN)) (show _ = some (54, [.ref w, .int (x1 + 1)], []) from rfl)).trans ?_
    rfl
  · rw [if_neg (show ¬ q_cc .eq y0 0 = true from fun z => c1 (of_decide_eq_true z))]
    refine Eq.trans ?_ (if_neg c1).symm
    refine (q_blk (Y := mX2_pass) (q_dcC dX2_pass_74 (q_dcC dX2_pass_75 (q_dcC dX2_pass_76 q_dcN))) (show _ = some (77, [.ref w, .int x1], [.int 4, .int x1, .ref w]) from rfl)).trans ?_
    exact K_calV (d := d) (Y := mX2_pass) (Z := mX10_isA) (vs := [.int x1, .int 4]) (rest := []) (la := [.ref w, .int x1, .int 4, .retAddr 0, .retAddr 0]) dX2_pass_77 rfl rfl rfl rfl (W_is0 hw) (Nat.le_of_ble_eq_true rfl) rfl (Nat.le_of_ble_eq_true rfl)
theorem B_X2_pass_46 {o : q_H} {w : Nat} (hw : q_W w) (d : Nat) (x1 : Int32) (g : Nat → Nat → Int32) : q_sem (d) mX2_pass 46 [.ref w, .int x1] [] (q_K o g) = q_sem (d) mX2_pass 12 [.ref w, .int (x1 + 1)] [] (q_K o g) := by
  refine (q_blk (Y := mX2_pass) (q_dcC dX2_pass_46 (q_dcC dX2_pass_49 q_dcN)) (show _ = some (12, [.ref w, .int (x1 + 1)], []) from rfl)).trans ?_
  rfl
theorem B_X2_pass_104 {o : q_H} {w : Nat} (hw : q_W w) (d : Nat) (x1 y0 y1 : Int32) (g : Nat → Nat → Int32) : q_sem (d + 1) mX2_pass 104 [.ref w, .int x1] [.int y0, .int y1] (q_K o g) = (if y0 ≤ y1 then some (none, q_K o g) else (q_sem d mX2_sound 0 [.ref w, .int x1, .retAddr 0, .retAddr 0, .retAddr 0] [] (q_K o g)).bind (fun r => q_sem (d + 1) mX2_pass 112 [.ref w, .int x1] (r.1.toList ++ []) r.2)) := by
  refine (q_blk (Y := mX2_pass) (q_dcC dX2_pass_104 q_dcN) (show _ = some ((if q_cc .ge y1 y0 = true then 118 else 107), [.ref w, .int x1], []) from rfl)).trans ?_
  by_cases c1 : y0 ≤ y1
  · rw [if_pos (show q_cc .ge y1 y0 = true from decide_eq_true c1)]
    refine Eq.trans ?_ (if_pos c1).symm
    exact k_vret (Y := mX2_pass) dX2_pass_118 rfl
  · rw [if_neg (show ¬ q_cc .ge y1 y0 = true from fun z => c1 (of_decide_eq_true z))]
    refine Eq.trans ?_ (if_neg c1).symm
    refine (q_blk (Y := mX2_pass) (q_dcC dX2_pass_107 (q_dcC dX2_pass_108 q_dcN)) (show _ = some (109, [.ref w, .int x1], [.int x1, .ref w]) from rfl)).trans ?_
    exact K_calS (d := d) (Y := mX2_pass) (Z := mX2_sound) (vs := [.ref w, .int x1]) (rest := []) (la := [.ref w, .int x1, .retAddr 0, .retAddr 0, .retAddr 0]) dX2_pass_109 rfl rfl rfl rfl (Nat.le_of_ble_eq_true rfl) rfl (Nat.le_of_ble_eq_true rfl)
theorem B_X2_pass_80 {o : q_H} {w : Nat} (hw : q_W w) (d : Nat) (x1 y0 : Int32) (g : Nat → Nat → Int32) : q_sem (d + 1) mX2_pass 80 [.ref w, .int x1] [.int y0] (q_K o g) = (if y0 = 0 then q_sem (d + 1) mX2_pass 54 [.ref w, .int (x1 + 1)] [] (q_K o g) else (q_sem d mX2_flyOn 0 [.ref w, .int x1, .retAddr 0, .retAddr 0, .retAddr 0, .retAddr 0, .retAddr 0] [] (q_K o g)).bind (fun r => q_sem (d + 1) mX2_pass 88 [.ref w, .int x1] (r.1.toList ++ []) r.2)) := by
  refine (q_blk (Y := mX2_pass) (q_dcC dX2_pass_80 q_dcN) (show _ = some ((if q_cc .eq y0 0 = true then 88 else 83), [.ref w, .int x1], []) from rfl)).trans ?_
  by_cases c1 : y0 = 0
  · rw [if_pos (show q_cc .eq y0 0 = true from decide_eq_true c1)]
    refine Eq.trans ?_ (if_pos c1).symm
    refine (q_blk (Y := mX2_pass) (q_dcC dX2_pass_88 (q_dcC dX2_pass_91 q_dcN)) (show _ = some (54, [.ref w, .int (x1 + 1)], []) from rfl)).trans ?_
    rfl
  · rw [if_neg (show ¬ q_cc .eq y0 0 = true from fun z => c1 (of_decide_eq_true z))]
    refine Eq.trans ?_ (if_neg c1).symm
    refine (q_blk (Y := mX2_pass) (q_dcC dX2_pass_83 (q_dcC dX2_pass_84 q_dcN)) (show _ = some (85, [.ref w, .int x1], [.int x1, .ref w]) from rfl)).trans ?_
    exact K_calS (d := d) (Y := mX2_pass) (Z := mX2_flyOn) (vs := [.ref w, .int x1]) (rest := []) (la := [.ref w, .int x1, .retAddr 0, .retAddr 0, .retAddr 0, .retAddr 0, .retAddr 0]) dX2_pass_85 rfl rfl rfl rfl (Nat.le_of_ble_eq_true rfl) rfl (Nat.le_of_ble_eq_true rfl)
theorem B_X2_pass_112 {o : q_H} {w : Nat} (hw : q_W w) (d : Nat) (x1 : Int32) (g : Nat → Nat → Int32) : q_sem (d) mX2_pass 112 [.ref w, .int x1] [] (q_K o g) = q_sem (d) mX2_pass 96 [.ref w, .int (x1 + 1)] [] (q_K o g) := by
  refine (q_blk (Y := mX2_pass) (q_dcC dX2_pass_112 (q_dcC dX2_pass_115 q_dcN)) (show _ = some (96, [.ref w, .int (x1 + 1)], []) from rfl)).trans ?_
  rfl
theorem B_X2_pass_88 {o : q_H} {w : Nat} (hw : q_W w) (d : Nat) (x1 : Int32) (g : Nat → Nat → Int32) : q_sem (d) mX2_pass 88 [.ref w, .int x1] [] (q_K o g) = q_sem (d) mX2_pass 54 [.ref w, .int (x1 + 1)] [] (q_K o g) := by
  refine (q_blk (Y := mX2_pass) (q_dcC dX2_pass_88 (q_dcC dX2_pass_91 q_dcN)) (show _ = some (54, [.ref w, .int (x1 + 1)], []) from rfl)).trans ?_
  rfl
theorem B_X2_goOn_0 {o : q_H} {w : Nat} (hw : q_W w) (d : Nat) (x1 : Int32) (g : Nat → Nat → Int32) : q_sem (d + 1) mX2_goOn 0 [.ref w, .int x1, .retAddr 0, .retAddr 0] [] (q_K o g) = (q_sem d mX7_get 0 [.ref (w + 11), .int x1, .int 1] [] (q_K o g)).bind (fun r => q_sem (d + 1) mX2_goOn 11 [.ref w, .int x1, .ref (w + 11), .retAddr 0] (r.1.toList ++ []) r.2) := by
  refine (q_blk (Y := mX2_goOn) (q_dcC dX2_goOn_0 q_dcN) (show _ = some (1, [.ref w, .int x1, .retAddr 0, .retAddr 0], [.ref w]) from rfl)).trans ?_
  refine (k_getr (Y := mX2_goOn) dX2_goOn_1 rfl rfl (W_is0 hw) (by decide) (W_r0_5 hw)).trans ?_
  refine (q_blk (Y := mX2_goOn) (q_dcC dX2_goOn_4 (q_dcC dX2_goOn_5 (q_dcC dX2_goOn_6 (q_dcC dX2_goOn_7 q_dcN)))) (show _ = some (8, [.ref w, .int x1, .ref (w + 11), .retAddr 0], [.int 1, .int x1, .ref (w + 11)]) from rfl)).trans ?_
  exact K_calV (d := d) (Y := mX2_goOn) (Z := mX7_get) (vs := [.int x1, .int 1]) (rest := []) (la := [.ref (w + 11), .int x1, .int 1]) dX2_goOn_8 rfl rfl rfl rfl (W_is11 hw) (Nat.le_of_ble_eq_true rfl) rfl (Nat.le_of_ble_eq_true rfl)
theorem B_X2_goOn_11 {o : q_H} {w : Nat} (hw : q_W w) (d : Nat) (x1 y0 : Int32) (g : Nat → Nat → Int32) : q_sem (d + 1) mX2_goOn 11 [.ref w, .int x1, .ref (w + 11), .retAddr 0] [.int y0] (q_K o g) = (q_sem d mX7_get 0 [.ref (w + 11), .int x1, .int 4] [] (q_K o g)).bind (fun r => q_sem (d + 1) mX2_goOn 17 [.ref w, .int x1, .ref (w + 11), .retAddr 0] (r.1.toList ++ [.int y0]) r.2) := by
  refine (q_blk (Y := mX2_goOn) (q_dcC dX2_goOn_11 (q_dcC dX2_goOn_12 (q_dcC dX2_goOn_13 q_dcN))) (show _ = some (14, [.ref w, .int x1, .ref (w + 11), .retAddr 0], [.int 4, .int x1, .ref (w + 11), .int y0]) from rfl)).trans ?_
  exact K_calV (d := d) (Y := mX2_goOn) (Z := mX7_get) (vs := [.int x1, .int 4]) (rest := [.int y0]) (la := [.ref (w + 11), .int x1, .int 4]) dX2_goOn_14 rfl rfl rfl rfl (W_is11 hw) (Nat.le_of_ble_eq_true rfl) rfl (Nat.le_of_ble_eq_true rfl)
theorem B_X2_goOn_17 {o : q_H} {w : Nat} (hw : q_W w) (d : Nat) (x1 y0 y1 : Int32) (g : Nat → Nat → Int32) : q_sem (d + 1) mX2_goOn 17 [.ref w, .int x1, .ref (w + 11), .retAddr 0] [.int y0, .int y1] (q_K o g) = (q_sem d mX7_get 0 [.ref (w + 11), .int x1, .int 3] [] (q_K o g)).bind (fun r => q_sem (d + 1) mX2_goOn 23 [.ref w, .int x1, .ref (w + 11), .retAddr 0] (r.1.toList ++ [.int y0, .int y1]) r.2) := by
  refine (q_blk (Y := mX2_goOn) (q_dcC dX2_goOn_17 (q_dcC dX2_goOn_18 (q_dcC dX2_goOn_19 q_dcN))) (show _ = some (20, [.ref w, .int x1, .ref (w + 11), .retAddr 0], [.int 3, .int x1, .ref (w + 11), .int y0, .int y1]) from rfl)).trans ?_
  exact K_calV (d := d) (Y := mX2_goOn) (Z := mX7_get) (vs := [.int x1, .int 3]) (rest := [.int y0, .int y1]) (la := [.ref (w + 11), .int x1, .int 3]) dX2_goOn_20 rfl rfl rfl rfl (W_is11 hw) (Nat.le_of_ble_eq_true rfl) rfl (Nat.le_of_ble_eq_true rfl)
theorem B_X2_goOn_23 {o : q_H} {w : Nat} (hw : q_W w) (d : Nat) (x1 y0 y1 y2 : Int32) (g : Nat → Nat → Int32) : q_sem (d + 1) mX2_goOn 23 [.ref w, .int x1, .ref (w + 11), .retAddr 0] [.int y0, .int y1, .int y2] (q_K o g) = (q_sem d mX3_flown 0 [.int y2, .int y1, .int y0, .retAddr 0, .retAddr 0] [] (q_K o g)).bind (fun r => q_sem (d + 1) mX2_goOn 26 [.ref w, .int x1, .ref (w + 11), .retAddr 0] (r.1.toList ++ []) r.2) := by
  exact K_calS (d := d) (Y := mX2_goOn) (Z := mX3_flown) (vs := [.int y2, .int y1, .int y0]) (rest := []) (la := [.int y2, .int y1, .int y0, .retAddr 0, .retAddr 0]) dX2_goOn_23 rfl rfl rfl rfl (Nat.le_of_ble_eq_true rfl) rfl (Nat.le_of_ble_eq_true rfl)
theorem B_X2_goOn_26 {o : q_H} {w : Nat} (hw : q_W w) (d : Nat) (x1 y0 : Int32) (g : Nat → Nat → Int32) : q_sem (d + 1) mX2_goOn 26 [.ref w, .int x1, .ref (w + 11), .retAddr 0] [.int y0] (q_K o g) = (if 0 ≤ y0 then (q_sem d mX7_write 0 [.ref (w + 11), .int x1, .int 1, .int y0] [] (q_K o g)).bind (fun r => q_sem (d + 1) mX2_goOn 49 [.ref w, .int x1, .ref (w + 11), .int y0] (r.1.toList ++ []) r.2) else (q_sem d mX7_write 0 [.ref (w + 11), .int x1, .int 6, .int 2] [] (q_K o g)).bind (fun r => q_sem (d + 1) mX2_goOn 39 [.ref w, .int x1, .ref (w + 11), .int y0] (r.1.toList ++ []) r.2)) := by
  refine (q_blk (Y := mX2_goOn) (q_dcC dX2_goOn_26 (q_dcC dX2_goOn_27 (q_dcC dX2_goOn_28 q_dcN))) (show _ = some ((if q_cc .ge y0 0 = true then 42 else 31), [.ref w, .int x1, .ref (w + 11), .int y0], []) from rfl)).trans ?_
  by_cases c1 : 0 ≤ y0
  · rw [if_pos (show q_cc .ge y0 0 = true from decide_eq_true c1)]
    refine Eq.trans ?_ (if_pos c1).symm
    refine (q_blk (Y := mX2_goOn) (q_dcC dX2_goOn_42 (q_dcC dX2_goOn_43 (q_dcC dX2_goOn_44 (q_dcC dX2_goOn_45 q_dcN)))) (show _ = some (46, [.ref w, .int x1, .ref (w + 11), .int y0], [.int y0, .int 1, .int x1, .ref (w + 11)]) from rfl)).trans ?_
    exact K_calV (d := d) (Y := mX2_goOn) (Z := mX7_write) (vs := [.int x1, .int 1, .int y0]) (rest := []) (la := [.ref (w + 11), .int x1, .int 1, .int y0]) dX2_goOn_46 rfl rfl rfl rfl (W_is11 hw) (Nat.le_of_ble_eq_true rfl) rfl (Nat.le_of_ble_eq_true rfl)
  · rw [if_neg (show ¬ q_cc .ge y0 0 = true from fun z => c1 (of_decide_eq_true z))]
    refine Eq.trans ?_ (if_neg c1).symm
    refine (q_blk (Y := mX2_goOn) (q_dcC dX2_goOn_31 (q_dcC dX2_goOn_32 (q_dcC dX2_goOn_33 (q_dcC dX2_goOn_35 q_dcN)))) (show _ = some (36, [.ref w, .int x1, .ref (w + 11), .int y0], [.int 2, .int 6, .int x1, .ref (w + 11)]) from rfl)).trans ?_
    exact K_calV (d := d) (Y := mX2_goOn) (Z := mX7_write) (vs := [.int x1, .int 6, .int 2]) (rest := []) (la := [.ref (w + 11), .int x1, .int 6, .int 2]) dX2_goOn_36 rfl rfl rfl rfl (W_is11 hw) (Nat.le_of_ble_eq_true rfl) rfl (Nat.le_of_ble_eq_true rfl)
theorem B_X2_goOn_49 {o : q_H} {w : Nat} (hw : q_W w) (d : Nat) (x1 x3 : Int32) (g : Nat → Nat → Int32) : q_sem (d) mX2_goOn 49 [.ref w, .int x1, .ref (w + 11), .int x3] [] (q_K o g) = some (none, q_K o g) := by
  exact k_vret (Y := mX2_goOn) dX2_goOn_49 rfl
theorem B_X2_goOn_39 {o : q_H} {w : Nat} (hw : q_W w) (d : Nat) (x1 x3 : Int32) (g : Nat → Nat → Int32) : q_sem (d) mX2_goOn 39 [.ref w, .int x1, .ref (w + 11), .int x3] [] (q_K o g) = some (none, q_K o g) := by
  refine (q_blk (Y := mX2_goOn) (q_dcC dX2_goOn_39 q_dcN) (show _ = some (49, [.ref w, .int x1, .ref (w + 11), .int x3], []) from rfl)).trans ?_
  exact k_vret (Y := mX2_goOn) dX2_goOn_49 rfl
theorem B_X2_flyOn_0 {o : q_H} {w : Nat} (hw : q_W w) (d : Nat) (x1 : Int32) (g : Nat → Nat → Int32) : q_sem (d + 1) mX2_flyOn 0 [.ref w, .int x1, .retAddr 0, .retAddr 0, .retAddr 0, .retAddr 0, .retAddr 0] [] (q_K o g) = (q_sem d mX7_get 0 [.ref (w + 11), .int x1, .int 7] [] (q_K o g)).bind (fun r => q_sem (d + 1) mX2_flyOn 12 [.ref w, .int x1, .ref (w + 11), .retAddr 0, .retAddr 0, .retAddr 0, .retAddr 0] (r.1.toList ++ []) r.2) := by
  refine (q_blk (Y := mX2_flyOn) (q_dcC dX2_flyOn_0 q_dcN) (show _ = some (1, [.ref w, .int x1, .retAddr 0, .retAddr 0, .retAddr 0, .retAddr 0, .retAddr 0], [.ref w]) from rfl)).trans ?_
  refine (k_getr (Y := mX2_flyOn) dX2_flyOn_1 rfl rfl (W_is0 hw) (by decide) (W_r0_5 hw)).trans ?_
  refine (q_blk (Y := mX2_flyOn) (q_dcC dX2_flyOn_4 (q_dcC dX2_flyOn_5 (q_dcC dX2_flyOn_6 (q_dcC dX2_flyOn_7 q_dcN)))) (show _ = some (9, [.ref w, .int x1, .ref (w + 11), .retAddr 0, .retAddr 0, .retAddr 0, .retAddr 0], [.int 7, .int x1, .ref (w + 11)]) from rfl)).trans ?_
  exact K_calV (d := d) (Y := mX2_flyOn) (Z := mX7_get) (vs := [.int x1, .int 7]) (rest := []) (la := [.ref (w + 11), .int x1, .int 7]) dX2_flyOn_9 rfl rfl rfl rfl (W_is11 hw) (Nat.le_of_ble_eq_true rfl) rfl (Nat.le_of_ble_eq_true rfl)
theorem B_X2_flyOn_12 {o : q_H} {w : Nat} (hw : q_W w) (d : Nat) (x1 y0 : Int32) (g : Nat → Nat → Int32) : q_sem (d + 1) mX2_flyOn 12 [.ref w, .int x1, .ref (w + 11), .retAddr 0, .retAddr 0, .retAddr 0, .retAddr 0] [.int y0] (q_K o g) = (q_sem d mX7_write 0 [.ref (w + 11), .int x1, .int 7, .int (if (y0 - 1) < 0 then 0 else (y0 - 1))] [] (q_K o g)).bind (fun r => q_sem (d + 1) mX2_flyOn 27 [.ref w, .int x1, .ref (w + 11), .int (y0 - 1), .retAddr 0, .retAddr 0, .retAddr 0] (r.1.toList ++ []) r.2) := by
  refine (q_blk (Y := mX2_flyOn) (q_dcC dX2_flyOn_12 (q_dcC dX2_flyOn_13 (q_dcC dX2_flyOn_14 (q_dcC dX2_flyOn_15 (q_dcC dX2_flyOn_16 (q_dcC dX2_flyOn_17 (q_dcC dX2_flyOn_19 (q_dcC dX2_flyOn_20 q_dcN)))))))) (show _ = some (21, [.ref w, .int x1, .ref (w + 11), .int (y0 - 1), .retAddr 0, .retAddr 0, .retAddr 0], [.int 0, .int (y0 - 1), .int 7, .int x1, .ref (w + 11)]) from rfl)).trans ?_
  refine (k_max (Y := mX2_flyOn) dX2_flyOn_21 rfl rfl (by decide) (by decide) (Nat.le_of_ble_eq_true rfl)).trans ?_
  exact K_calV (d := d) (Y := mX2_flyOn) (Z := mX7_write) (vs := [.int x1, .int 7, .int (if (y0 - 1) < 0 then 0 else (y0 - 1))]) (rest := []) (la := [.ref (w + 11), .int x1, .int 7, .int (if (y0 - 1) < 0 then 0 else (y0 - 1))]) dX2_flyOn_24 rfl rfl rfl rfl (W_is11 hw) (Nat.le_of_ble_eq_true rfl) rfl (Nat.le_of_ble_eq_true rfl)
theorem B_X2_flyOn_27 {o : q_H} {w : Nat} (hw : q_W w) (d : Nat) (x1 x3 : Int32) (g : Nat → Nat → Int32) : q_sem (d + 1) mX2_flyOn 27 [.ref w, .int x1, .ref (w + 11), .int x3, .retAddr 0, .retAddr 0, .retAddr 0] [] (q_K o g) = (if 0 ≤ x3 then (q_sem d mX7_get 0 [.ref (w + 11), .int x1, .int 9] [] (q_K o g)).bind (fun r => q_sem (d + 1) mX2_flyOn 56 [.ref w, .int x1, .ref (w + 11), .int x3, .retAddr 0, .retAddr 0, .retAddr 0] (r.1.toList ++ [.ref w]) r.2) else (q_sem d mX7_write 0 [.ref (w + 11), .int x1, .int 6, .int 2] [] (q_K o g)).bind (fun r => q_sem (d + 1) mX2_flyOn 39 [.ref w, .int x1, .ref (w + 11), .int x3, .retAddr 0, .retAddr 0, .retAddr 0] (r.1.toList ++ []) r.2)) := by
  refine (q_blk (Y := mX2_flyOn) (q_dcC dX2_flyOn_27 (q_dcC dX2_flyOn_28 q_dcN)) (show _ = some ((if q_cc .ge x3 0 = true then 48 else 31), [.ref w, .int x1, .ref (w + 11), .int x3, .retAddr 0, .retAddr 0, .retAddr 0], []) from rfl)).trans ?_
  by_cases c1 : 0 ≤ x3
  · rw [if_pos (show q_cc .ge x3 0 = true from decide_eq_true c1)]
    refine Eq.trans ?_ (if_pos c1).symm
    refine (q_blk (Y := mX2_flyOn) (q_dcC dX2_flyOn_48 (q_dcC dX2_flyOn_49 (q_dcC dX2_flyOn_50 (q_dcC dX2_flyOn_51 q_dcN)))) (show _ = some (53, [.ref w, .int x1, .ref (w + 11), .int x3, .retAddr 0, .retAddr 0, .retAddr 0], [.int 9, .int x1, .ref (w + 11), .ref w]) from rfl)).trans ?_
    exact K_calV (d := d) (Y := mX2_flyOn) (Z := mX7_get) (vs := [.int x1, .int 9]) (rest := [.ref w]) (la := [.ref (w + 11), .int x1, .int 9]) dX2_flyOn_53 rfl rfl rfl rfl (W_is11 hw) (Nat.le_of_ble_eq_true rfl) rfl (Nat.le_of_ble_eq_true rfl)
  · rw [if_neg (show ¬ q_cc .ge x3 0 = true from fun z => c1 (of_decide_eq_true z))]
    refine Eq.trans ?_ (if_neg c1).symm
    refine (q_blk (Y := mX2_flyOn) (q_dcC dX2_flyOn_31 (q_dcC dX2_flyOn_32 (q_dcC dX2_flyOn_33 (q_dcC dX2_flyOn_35 q_dcN)))) (show _ = some (36, [.ref w, .int x1, .ref (w + 11), .int x3, .retAddr 0, .retAddr 0, .retAddr 0], [.int 2, .int 6, .int x1, .ref (w + 11)]) from rfl)).trans ?_
    exact K_calV (d := d) (Y := mX2_flyOn) (Z := mX7_write) (vs := [.int x1, .int 6, .int 2]) (rest := []) (la := [.ref (w + 11), .int x1, .int 6, .int 2]) dX2_flyOn_36 rfl rfl rfl rfl (W_is11 hw) (Nat.le_of_ble_eq_true rfl) rfl (Nat.le_of_ble_eq_true rfl)
theorem B_X2_flyOn_56 {o : q_H} {w : Nat} (hw : q_W w) (d : Nat) (x1 x3 y0 : Int32) (g : Nat → Nat → Int32) : q_sem (d + 1) mX2_flyOn 56 [.ref w, .int x1, .ref (w + 11), .int x3, .retAddr 0, .retAddr 0, .retAddr 0] [.int y0, .ref w] (q_K o g) = (q_sem d mX10_stands 0 [.ref w, .int y0, .int 0] [] (q_K o g)).bind (fun r => q_sem (d + 1) mX2_flyOn 60 [.ref w, .int x1, .ref (w + 11), .int x3, .retAddr 0, .retAddr 0, .retAddr 0] (r.1.toList ++ []) r.2) := by
  refine (q_blk (Y := mX2_flyOn) (q_dcC dX2_flyOn_56 q_dcN) (show _ = some (57, [.ref w, .int x1, .ref (w + 11), .int x3, .retAddr 0, .retAddr 0, .retAddr 0], [.int 0, .int y0, .ref w]) from rfl)).trans ?_
  exact K_calV (d := d) (Y := mX2_flyOn) (Z := mX10_stands) (vs := [.int y0, .int 0]) (rest := []) (la := [.ref w, .int y0, .int 0]) dX2_flyOn_57 rfl rfl rfl rfl (W_is0 hw) (Nat.le_of_ble_eq_true rfl) rfl (Nat.le_of_ble_eq_true rfl)
theorem B_X2_flyOn_39 {o : q_H} {w : Nat} (hw : q_W w) (d : Nat) (x1 x3 : Int32) (g : Nat → Nat → Int32) : q_sem (d + 1) mX2_flyOn 39 [.ref w, .int x1, .ref (w + 11), .int x3, .retAddr 0, .retAddr 0, .retAddr 0] [] (q_K o g) = (q_sem d mX7_write 0 [.ref (w + 11), .int x1, .int 9, .int (-1)] [] (q_K o g)).bind (fun r => q_sem (d + 1) mX2_flyOn 47 [.ref w, .int x1, .ref (w + 11), .int x3, .retAddr 0, .retAddr 0, .retAddr 0] (r.1.toList ++ []) r.2) := by
  refine (q_blk (Y := mX2_flyOn) (q_dcC dX2_flyOn_39 (q_dcC dX2_flyOn_40 (q_dcC dX2_flyOn_41 (q_dcC dX2_flyOn_43 q_dcN)))) (show _ = some (44, [.ref w, .int x1, .ref (w + 11), .int x3, .retAddr 0, .retAddr 0, .retAddr 0], [.int (-1), .int 9, .int x1, .ref (w + 11)]) from rfl)).trans ?_
  exact K_calV (d := d) (Y := mX2_flyOn) (Z := mX7_write) (vs := [.int x1, .int 9, .int (-1)]) (rest := []) (la := [.ref (w + 11), .int x1, .int 9, .int (-1)]) dX2_flyOn_44 rfl rfl rfl rfl (W_is11 hw) (Nat.le_of_ble_eq_true rfl) rfl (Nat.le_of_ble_eq_true rfl)
theorem B_X2_flyOn_60 {o : q_H} {w : Nat} (hw : q_W w) (d : Nat) (x1 x3 y0 : Int32) (g : Nat → Nat → Int32) : q_sem (d + 1) mX2_flyOn 60 [.ref w, .int x1, .ref (w + 11), .int x3, .retAddr 0, .retAddr 0, .retAddr 0] [.int y0] (q_K o g) = (if y0 = 0 then (q_sem d mX7_write 0 [.ref (w + 11), .int x1, .int 9, .int (-1)] [] (q_K o g)).bind (fun r => q_sem (d + 1) mX2_flyOn 71 [.ref w, .int x1, .ref (w + 11), .int x3, .retAddr 0, .retAddr 0, .retAddr 0] (r.1.toList ++ []) r.2) else (q_sem d mX7_get 0 [.ref (w + 11), .int x1, .int 9] [] (q_K o g)).bind (fun r => q_sem (d + 1) mX2_flyOn 78 [.ref w, .int x1, .ref (w + 11), .int x3, .retAddr 0, .retAddr 0, .retAddr 0] (r.1.toList ++ []) r.2)) := by
  refine (q_blk (Y := mX2_flyOn) (q_dcC dX2_flyOn_60 q_dcN) (show _ = some ((if q_cc .ne y0 0 = true then 71 else 63), [.ref w, .int x1, .ref (w + 11), .int x3, .retAddr 0, .retAddr 0, .retAddr 0], []) from rfl)).trans ?_
  by_cases c1 : y0 = 0
  · rw [if_neg (show ¬ q_cc .ne y0 0 = true from fun z => (of_decide_eq_true z : ¬ y0 = 0) c1)]
    refine Eq.trans ?_ (if_pos c1).symm
    refine (q_blk (Y := mX2_flyOn) (q_dcC dX2_flyOn_63 (q_dcC dX2_flyOn_64 (q_dcC dX2_flyOn_65 (q_dcC dX2_flyOn_67 q_dcN)))) (show _ = some (68, [.ref w, .int x1, .ref (w + 11), .int x3, .retAddr 0, .retAddr 0, .retAddr 0], [.int (-1), .int 9, .int x1, .ref (w + 11)]) from rfl)).trans ?_
    exact K_calV (d := d) (Y := mX2_flyOn) (Z := mX7_write) (vs := [.int x1, .int 9, .int (-1)]) (rest := []) (la := [.ref (w + 11), .int x1, .int 9, .int (-1)]) dX2_flyOn_68 rfl rfl rfl rfl (W_is11 hw) (Nat.le_of_ble_eq_true rfl) rfl (Nat.le_of_ble_eq_true rfl)
  · rw [if_pos (show q_cc .ne y0 0 = true from decide_eq_true c1)]
    refine Eq.trans ?_ (if_neg c1).symm
    refine (q_blk (Y := mX2_flyOn) (q_dcC dX2_flyOn_71 (q_dcC dX2_flyOn_72 (q_dcC dX2_flyOn_73 q_dcN))) (show _ = some (75, [.ref w, .int x1, .ref (w + 11), .int x3, .retAddr 0, .retAddr 0, .retAddr 0], [.int 9, .int x1, .ref (w + 11)]) from rfl)).trans ?_
    exact K_calV (d := d) (Y := mX2_flyOn) (Z := mX7_get) (vs := [.int x1, .int 9]) (rest := []) (la := [.ref (w + 11), .int x1, .int 9]) dX2_flyOn_75 rfl rfl rfl rfl (W_is11 hw) (Nat.le_of_ble_eq_true rfl) rfl (Nat.le_of_ble_eq_true rfl)
theorem B_X2_flyOn_47 {o : q_H} {w : Nat} (hw : q_W w) (d : Nat) (x1 x3 : Int32) (g : Nat → Nat → Int32) : q_sem (d) mX2_flyOn 47 [.ref w, .int x1, .ref (w + 11), .int x3, .retAddr 0, .retAddr 0, .retAddr 0] [] (q_K o g) = some (none, q_K o g) := by
  exact k_vret (Y := mX2_flyOn) dX2_flyOn_47 rfl
theorem B_X2_flyOn_71 {o : q_H} {w : Nat} (hw : q_W w) (d : Nat) (x1 x3 : Int32) (g : Nat → Nat → Int32) : q_sem (d + 1) mX2_flyOn 71 [.ref w, .int x1, .ref (w + 11), .int x3, .retAddr 0, .retAddr 0, .retAddr 0] [] (q_K o g) = (q_sem d mX7_get 0 [.ref (w + 11), .int x1, .int 9] [] (q_K o g)).bind (fun r => q_sem (d + 1) mX2_flyOn 78 [.ref w, .int x1, .ref (w + 11), .int x3, .retAddr 0, .retAddr 0, .retAddr 0] (r.1.toList ++ []) r.2) := by
  refine (q_blk (Y := mX2_flyOn) (q_dcC dX2_flyOn_71 (q_dcC dX2_flyOn_72 (q_dcC dX2_flyOn_73 q_dcN))) (show _ = some (75, [.ref w, .int x1, .ref (w + 11), .int x3, .retAddr 0, .retAddr 0, .retAddr 0], [.int 9, .int x1, .ref (w + 11)]) from rfl)).trans ?_
  exact K_calV (d := d) (Y := mX2_flyOn) (Z := mX7_get) (vs := [.int x1, .int 9]) (rest := []) (la := [.ref (w + 11), .int x1, .int 9]) dX2_flyOn_75 rfl rfl rfl rfl (W_is11 hw) (Nat.le_of_ble_eq_true rfl) rfl (Nat.le_of_ble_eq_true rfl)
theorem B_X2_flyOn_78 {o : q_H} {w : Nat} (hw : q_W w) (d : Nat) (x1 x3 y0 : Int32) (g : Nat → Nat → Int32) : q_sem (d + 1) mX2_flyOn 78 [.ref w, .int x1, .ref (w + 11), .int x3, .retAddr 0, .retAddr 0, .retAddr 0] [.int y0] (q_K o g) = (if 0 ≤ y0 then (q_sem d mX7_get 0 [.ref (w + 11), .int y0, .int 1] [] (q_K o g)).bind (fun r => q_sem (d + 1) mX2_flyOn 100 [.ref w, .int x1, .ref (w + 11), .int x3, .int y0, .retAddr 0, .retAddr 0] (r.1.toList ++ []) r.2) else (q_sem d mX2_fieldOf 0 [.ref w, .int x1] [] (q_K o g)).bind (fun r => q_sem (d + 1) mX2_flyOn 90 [.ref w, .int x1, .ref (w + 11), .int x3, .int y0, .retAddr 0, .retAddr 0] (r.1.toList ++ []) r.2)) := by
  refine (q_blk (Y := mX2_flyOn) (q_dcC dX2_flyOn_78 (q_dcC dX2_flyOn_80 (q_dcC dX2_flyOn_82 q_dcN))) (show _ = some ((if q_cc .ge y0 0 = true then 93 else 85), [.ref w, .int x1, .ref (w + 11), .int x3, .int y0, .retAddr 0, .retAddr 0], []) from rfl)).trans ?_
  by_cases c1 : 0 ≤ y0
  · rw [if_pos (show q_cc .ge y0 0 = true from decide_eq_true c1)]
    refine Eq.trans ?_ (if_pos c1).symm
    refine (q_blk (Y := mX2_flyOn) (q_dcC dX2_flyOn_93 (q_dcC dX2_flyOn_94 (q_dcC dX2_flyOn_96 q_dcN))) (show _ = some (97, [.ref w, .int x1, .ref (w + 11), .int x3, .int y0, .retAddr 0, .retAddr 0], [.int 1, .int y0, .ref (w + 11)]) from rfl)).trans ?_
    exact K_calV (d := d) (Y := mX2_flyOn) (Z := mX7_get) (vs := [.int y0, .int 1]) (rest := []) (la := [.ref (w + 11), .int y0, .int 1]) dX2_flyOn_97 rfl rfl rfl rfl (W_is11 hw) (Nat.le_of_ble_eq_true rfl) rfl (Nat.le_of_ble_eq_true rfl)
  · rw [if_neg (show ¬ q_cc .ge y0 0 = true from fun z => c1 (of_decide_eq_true z))]
    refine Eq.trans ?_ (if_neg c1).symm
    refine (q_blk (Y := mX2_flyOn) (q_dcC dX2_flyOn_85 (q_dcC dX2_flyOn_86 q_dcN)) (show _ = some (87, [.ref w, .int x1, .ref (w + 11), .int x3, .int y0, .retAddr 0, .retAddr 0], [.int x1, .ref w]) from rfl)).trans ?_
    exact K_calS (d := d) (Y := mX2_flyOn) (Z := mX2_fieldOf) (vs := [.ref w, .int x1]) (rest := []) (la := [.ref w, .int x1]) dX2_flyOn_87 rfl rfl rfl rfl (Nat.le_of_ble_eq_true rfl) rfl (Nat.le_of_ble_eq_true rfl)
theorem B_X2_flyOn_100 {o : q_H} {w : Nat} (hw : q_W w) (d : Nat) (x1 x3 x4 y0 : Int32) (g : Nat → Nat → Int32) : q_sem (d + 1) mX2_flyOn 100 [.ref w, .int x1, .ref (w + 11), .int x3, .int x4, .retAddr 0, .retAddr 0] [.int y0] (q_K o g) = (if 0 ≤ x4 then (q_sem d mX7_get 0 [.ref (w + 11), .int x4, .int 2] [] (q_K o g)).bind (fun r => q_sem (d + 1) mX2_flyOn 118 [.ref w, .int x1, .ref (w + 11), .int x3, .int x4, .int y0, .retAddr 0] (r.1.toList ++ []) r.2) else (q_sem d mX7_get 0 [.ref (w + 11), .int x1, .int 2] [] (q_K o g)).bind (fun r => q_sem (d + 1) mX2_flyOn 129 [.ref w, .int x1, .ref (w + 11), .int x3, .int x4, .int y0, .int 0] (r.1.toList ++ [.int 2, .int x1, .ref (w + 11)]) r.2)) := by
  refine (q_blk (Y := mX2_flyOn) (q_dcC dX2_flyOn_100 (q_dcC dX2_flyOn_102 (q_dcC dX2_flyOn_104 q_dcN))) (show _ = some ((if q_cc .ge x4 0 = true then 111 else 107), [.ref w, .int x1, .ref (w + 11), .int x3, .int x4, .int y0, .retAddr 0], []) from rfl)).trans ?_
  by_cases c1 : 0 ≤ x4
  · rw [if_pos (show q_cc .ge x4 0 = true from decide_eq_true c1)]
    refine Eq.trans ?_ (if_pos c1).symm
    refine (q_blk (Y := mX2_flyOn) (q_dcC dX2_flyOn_111 (q_dcC dX2_flyOn_112 (q_dcC dX2_flyOn_114 q_dcN))) (show _ = some (115, [.ref w, .int x1, .ref (w + 11), .int x3, .int x4, .int y0, .retAddr 0], [.int 2, .int x4, .ref (w + 11)]) from rfl)).trans ?_
    exact K_calV (d := d) (Y := mX2_flyOn) (Z := mX7_get) (vs := [.int x4, .int 2]) (rest := []) (la := [.ref (w + 11), .int x4, .int 2]) dX2_flyOn_115 rfl rfl rfl rfl (W_is11 hw) (Nat.le_of_ble_eq_true rfl) rfl (Nat.le_of_ble_eq_true rfl)
  · rw [if_neg (show ¬ q_cc .ge x4 0 = true from fun z => c1 (of_decide_eq_true z))]
    refine Eq.trans ?_ (if_neg c1).symm
    refine (q_blk (Y := mX2_flyOn) (q_dcC dX2_flyOn_107 (q_dcC dX2_flyOn_108 q_dcN)) (show _ = some (118, [.ref w, .int x1, .ref (w + 11), .int x3, .int x4, .int y0, .retAddr 0], [.int 0]) from rfl)).trans ?_
    refine (q_blk (Y := mX2_flyOn) (q_dcC dX2_flyOn_118 (q_dcC dX2_flyOn_120 (q_dcC dX2_flyOn_121 (q_dcC dX2_flyOn_122 (q_dcC dX2_flyOn_123 (q_dcC dX2_flyOn_124 (q_dcC dX2_flyOn_125 q_dcN))))))) (show _ = some (126, [.ref w, .int x1, .ref (w + 11), .int x3, .int x4, .int y0, .int 0], [.int 2, .int x1, .ref (w + 11), .int 2, .int x1, .ref (w + 11)]) from rfl)).trans ?_
    exact K_calV (d := d) (Y := mX2_flyOn) (Z := mX7_get) (vs := [.int x1, .int 2]) (rest := [.int 2, .int x1, .ref (w + 11)]) (la := [.ref (w + 11), .int x1, .int 2]) dX2_flyOn_126 rfl rfl rfl rfl (W_is11 hw) (Nat.le_of_ble_eq_true rfl) rfl (Nat.le_of_ble_eq_true rfl)
theorem B_X2_flyOn_90 {o : q_H} {w : Nat} (hw : q_W w) (d : Nat) (x1 x3 x4 y0 : Int32) (g : Nat → Nat → Int32) : q_sem (d + 1) mX2_flyOn 90 [.ref w, .int x1, .ref (w + 11), .int x3, .int x4, .retAddr 0, .retAddr 0] [.int y0] (q_K o g) = (if 0 ≤ x4 then (q_sem d mX7_get 0 [.ref (w + 11), .int x4, .int 2] [] (q_K o g)).bind (fun r => q_sem (d + 1) mX2_flyOn 118 [.ref w, .int x1, .ref (w + 11), .int x3, .int x4, .int y0, .retAddr 0] (r.1.toList ++ []) r.2) else (q_sem d mX7_get 0 [.ref (w + 11), .int x1, .int 2] [] (q_K o g)).bind (fun r => q_sem (d + 1) mX2_flyOn 129 [.ref w, .int x1, .ref (w + 11), .int x3, .int x4, .int y0, .int 0] (r.1.toList ++ [.int 2, .int x1, .ref (w + 11)]) r.2)) := by
  refine (q_blk (Y := mX2_flyOn) (q_dcC dX2_flyOn_90 q_dcN) (show _ = some (100, [.ref w, .int x1, .ref (w + 11), .int x3, .int x4, .retAddr 0, .retAddr 0], [.int y0]) from rfl)).trans ?_
  refine (q_blk (Y := mX2_flyOn) (q_dcC dX2_flyOn_100 (q_dcC dX2_flyOn_102 (q_dcC dX2_flyOn_104 q_dcN))) (show _ = some ((if q_cc .ge x4 0 = true then 111 else 107), [.ref w, .int x1, .ref (w + 11), .int x3, .int x4, .int y0, .retAddr 0], []) from rfl)).trans ?_
  by_cases c1 : 0 ≤ x4
  · rw [if_pos (show q_cc .ge x4 0 = true from decide_eq_true c1)]
    refine Eq.trans ?_ (if_pos c1).symm
    refine (q_blk (Y := mX2_flyOn) (q_dcC dX2_flyOn_111 (q_dcC dX2_flyOn_112 (q_dcC dX2_flyOn_114 q_dcN))) (show _ = some (115, [.ref w, .int x1, .ref (w + 11), .int x3, .int x4, .int y0, .retAddr 0], [.int 2, .int x4, .ref (w + 11)]) from rfl)).trans ?_
    exact K_calV (d := d) (Y := mX2_flyOn) (Z := mX7_get) (vs := [.int x4, .int 2]) (rest := []) (la := [.ref (w + 11), .int x4, .int 2]) dX2_flyOn_115 rfl rfl rfl rfl (W_is11 hw) (Nat.le_of_ble_eq_true rfl) rfl (Nat.le_of_ble_eq_true rfl)
  · rw [if_neg (show ¬ q_cc .ge x4 0 = true from fun z => c1 (of_decide_eq_true z))]
    refine Eq.trans ?_ (if_neg c1).symm
    refine (q_blk (Y := mX2_flyOn) (q_dcC dX2_flyOn_107 (q_dcC dX2_flyOn_108 q_dcN)) (show _ = some (118, [.ref w, .int x1, .ref (w + 11), .int x3, .int x4, .int y0, .retAddr 0], [.int 0]) from rfl)).trans ?_
    refine (q_blk (Y := mX2_flyOn) (q_dcC dX2_flyOn_118 (q_dcC dX2_flyOn_120 (q_dcC dX2_flyOn_121 (q_dcC dX2_flyOn_122 (q_dcC dX2_flyOn_123 (q_dcC dX2_flyOn_124 (q_dcC dX2_flyOn_125 q_dcN))))))) (show _ = some (126, [.ref w, .int x1, .ref (w + 11), .int x3, .int x4, .int y0, .int 0], [.int 2, .int x1, .ref (w + 11), .int 2, .int x1, .ref (w + 11)]) from rfl)).trans ?_
    exact K_calV (d := d) (Y := mX2_flyOn) (Z := mX7_get) (vs := [.int x1, .int 2]) (rest := [.int 2, .int x1, .ref (w + 11)]) (la := [.ref (w + 11), .int x1, .int 2]) dX2_flyOn_126 rfl rfl rfl rfl (W_is11 hw) (Nat.le_of_ble_eq_true rfl) rfl (Nat.le_of_ble_eq_true rfl)
theorem B_X2_flyOn_118 {o : q_H} {w : Nat} (hw : q_W w) (d : Nat) (x1 x3 x4 x5 y0 : Int32) (g : Nat → Nat → Int32) : q_sem (d + 1) mX2_flyOn 118 [.ref w, .int x1, .ref (w + 11), .int x3, .int x4, .int x5, .retAddr 0] [.int y0] (q_K o g) = (q_sem d mX7_get 0 [.ref (w + 11), .int x1, .int 2] [] (q_K o g)).bind (fun r => q_sem (d + 1) mX2_flyOn 129 [.ref w, .int x1, .ref (w + 11), .int x3, .int x4, .int x5, .int y0] (r.1.toList ++ [.int 2, .int x1, .ref (w + 11)]) r.2) := by
  refine (q_blk (Y := mX2_flyOn) (q_dcC dX2_flyOn_118 (q_dcC dX2_flyOn_120 (q_dcC dX2_flyOn_121 (q_dcC dX2_flyOn_122 (q_dcC dX2_flyOn_123 (q_dcC dX2_flyOn_124 (q_dcC dX2_flyOn_125 q_dcN))))))) (show _ = some (126, [.ref w, .int x1, .ref (w + 11), .int x3, .int x4, .int x5, .int y0], [.int 2, .int x1, .ref (w + 11), .int 2, .int x1, .ref (w + 11)]) from rfl)).trans ?_
  exact K_calV (d := d) (Y := mX2_flyOn) (Z := mX7_get) (vs := [.int x1, .int 2]) (rest := [.int 2, .int x1, .ref (w + 11)]) (la := [.ref (w + 11), .int x1, .int 2]) dX2_flyOn_126 rfl rfl rfl rfl (W_is11 hw) (Nat.le_of_ble_eq_true rfl) rfl (Nat.le_of_ble_eq_true rfl)
theorem B_X2_flyOn_129 {o : q_H} {w : Nat} (hw : q_W w) (d : Nat) (x1 x3 x4 x5 x6 y0 y1 y2 : Int32) (g : Nat → Nat → Int32) : q_sem (d + 1) mX2_flyOn 129 [.ref w, .int x1, .ref (w + 11), .int x3, .int x4, .int x5, .int x6] [.int y0, .int y1, .int y2, .ref (w + 11)] (q_K o g) = (q_sem d mX3_climbed 0 [.int y0, .int x6] [] (q_K o g)).bind (fun r => q_sem (d + 1) mX2_flyOn 134 [.ref w, .int x1, .ref (w + 11), .int x3, .int x4, .int x5, .int x6] (r.1.toList ++ [.int y1, .int y2, .ref (w + 11)]) r.2) := by
  refine (q_blk (Y := mX2_flyOn) (q_dcC dX2_flyOn_129 q_dcN) (show _ = some (131, [.ref w, .int x1, .ref (w + 11), .int x3, .int x4, .int x5, .int x6], [.int x6, .int y0, .int y1, .int y2, .ref (w + 11)]) from rfl)).trans ?_
  exact K_calS (d := d) (Y := mX2_flyOn) (Z := mX3_climbed) (vs := [.int y0, .int x6]) (rest := [.int y1, .int y2, .ref (w + 11)]) (la := [.int y0, .int x6]) dX2_flyOn_131 rfl rfl rfl rfl (Nat.le_of_ble_eq_true rfl) rfl (Nat.le_of_ble_eq_true rfl)
theorem B_X2_flyOn_134 {o : q_H} {w : Nat} (hw : q_W w) (d : Nat) (x1 x3 x4 x5 x6 y0 y1 y2 : Int32) (g : Nat → Nat → Int32) : q_sem (d + 1) mX2_flyOn 134 [.ref w, .int x1, .ref (w + 11), .int x3, .int x4, .int x5, .int x6] [.int y0, .int y1, .int y2, .ref (w + 11)] (q_K o g) = (q_sem d mX7_write 0 [.ref (w + 11), .int y2, .int y1, .int y0] [] (q_K o g)).bind (fun r => q_sem (d + 1) mX2_flyOn 137 [.ref w, .int x1, .ref (w + 11), .int x3, .int x4, .int x5, .int x6] (r.1.toList ++ []) r.2) := by
  exact K_calV (d := d) (Y := mX2_flyOn) (Z := mX7_write) (vs := [.int y2, .int y1, .int y0]) (rest := []) (la := [.ref (w + 11), .int y2, .int y1, .int y0]) dX2_flyOn_134 rfl rfl rfl rfl (W_is11 hw) (Nat.le_of_ble_eq_true rfl) rfl (Nat.le_of_ble_eq_true rfl)
theorem B_X2_flyOn_137 {o : q_H} {w : Nat} (hw : q_W w) (d : Nat) (x1 x3 x4 x5 x6 : Int32) (g : Nat → Nat → Int32) : q_sem (d + 1) mX2_flyOn 137 [.ref w, .int x1, .ref (w + 11), .int x3, .int x4, .int x5, .int x6] [] (q_K o g) = (q_sem d mX7_get 0 [.ref (w + 11), .int x1, .int 1] [] (q_K o g)).bind (fun r => q_sem (d + 1) mX2_flyOn 146 [.ref w, .int x1, .ref (w + 11), .int x3, .int x4, .int x5, .int x6] (r.1.toList ++ [.int 1, .int x1, .ref (w + 11)]) r.2) := by
  refine (q_blk (Y := mX2_flyOn) (q_dcC dX2_flyOn_137 (q_dcC dX2_flyOn_138 (q_dcC dX2_flyOn_139 (q_dcC dX2_flyOn_140 (q_dcC dX2_flyOn_141 (q_dcC dX2_flyOn_142 q_dcN)))))) (show _ = some (143, [.ref w, .int x1, .ref (w + 11), .int x3, .int x4, .int x5, .int x6], [.int 1, .int x1, .ref (w + 11), .int 1, .int x1, .ref (w + 11)]) from rfl)).trans ?_
  exact K_calV (d := d) (Y := mX2_flyOn) (Z := mX7_get) (vs := [.int x1, .int 1]) (rest := [.int 1, .int x1, .ref (w + 11)]) (la := [.ref (w + 11), .int x1, .int 1]) dX2_flyOn_143 rfl rfl rfl rfl (W_is11 hw) (Nat.le_of_ble_eq_true rfl) rfl (Nat.le_of_ble_eq_true rfl)
theorem B_X2_flyOn_146 {o : q_H} {w : Nat} (hw : q_W w) (d : Nat) (x1 x3 x4 x5 x6 y0 y1 y2 : Int32) (g : Nat → Nat → Int32) : q_sem (d + 1) mX2_flyOn 146 [.ref w, .int x1, .ref (w + 11), .int x3, .int x4, .int x5, .int x6] [.int y0, .int y1, .int y2, .ref (w + 11)] (q_K o g) = (q_sem d mX3_nearer 0 [.int y0, .int x5] [] (q_K o g)).bind (fun r => q_sem (d + 1) mX2_flyOn 151 [.ref w, .int x1, .ref (w + 11), .int x3, .int x4, .int x5, .int x6] (r.1.toList ++ [.int y1, .int y2, .ref (w + 11)]) r.2) := by
  refine (q_blk (Y := mX2_flyOn) (q_dcC dX2_flyOn_146 q_dcN) (show _ = some (148, [.ref w, .int x1, .ref (w + 11), .int x3, .int x4, .int x5, .int x6], [.int x5, .int y0, .int y1, .int y2, .ref (w + 11)]) from rfl)).trans ?_
  exact K_calS (d := d) (Y := mX2_flyOn) (Z := mX3_nearer) (vs := [.int y0, .int x5]) (rest := [.int y1, .int y2, .ref (w + 11)]) (la := [.int y0, .int x5]) dX2_flyOn_148 rfl rfl rfl rfl (Nat.le_of_ble_eq_true rfl) rfl (Nat.le_of_ble_eq_true rfl)
theorem B_X2_flyOn_151 {o : q_H} {w : Nat} (hw : q_W w) (d : Nat) (x1 x3 x4 x5 x6 y0 y1 y2 : Int32) (g : Nat → Nat → Int32) : q_sem (d + 1) mX2_flyOn 151 [.ref w, .int x1, .ref (w + 11), .int x3, .int x4, .int x5, .int x6] [.int y0, .int y1, .int y2, .ref (w + 11)] (q_K o g) = (q_sem d mX7_write 0 [.ref (w + 11), .int y2, .int y1, .int y0] [] (q_K o g)).bind (fun r => q_sem (d + 1) mX2_flyOn 154 [.ref w, .int x1, .ref (w + 11), .int x3, .int x4, .int x5, .int x6] (r.1.toList ++ []) r.2) := by
  exact K_calV (d := d) (Y := mX2_flyOn) (Z := mX7_write) (vs := [.int y2, .int y1, .int y0]) (rest := []) (la := [.ref (w + 11), .int y2, .int y1, .int y0]) dX2_flyOn_151 rfl rfl rfl rfl (W_is11 hw) (Nat.le_of_ble_eq_true rfl) rfl (Nat.le_of_ble_eq_true rfl)
theorem B_X2_flyOn_154 {o : q_H} {w : Nat} (hw : q_W w) (d : Nat) (x1 x3 x4 x5 x6 : Int32) (g : Nat → Nat → Int32) : q_sem (d + 1) mX2_flyOn 154 [.ref w, .int x1, .ref (w + 11), .int x3, .int x4, .int x5, .int x6] [] (q_K o g) = (if x4 < 0 then (q_sem d mX7_get 0 [.ref (w + 11), .int x1, .int 9] [] (q_K o g)).bind (fun r => q_sem (d + 1) mX2_flyOn 173 [.ref w, .int x1, .ref (w + 11), .int x3, .int x4, .int x5, .int x6] (r.1.toList ++ []) r.2) else (q_sem d mX2_meet 0 [.ref w, .int x1, .int x4, .retAddr 0, .retAddr 0, .retAddr 0, .retAddr 0] [] (q_K o g)).bind (fun r => q_sem (d + 1) mX2_flyOn 166 [.ref w, .int x1, .ref (w + 11), .int x3, .int x4, .int x5, .int x6] (r.1.toList ++ []) r.2)) := by
  refine (q_blk (Y := mX2_flyOn) (q_dcC dX2_flyOn_154 (q_dcC dX2_flyOn_156 q_dcN)) (show _ = some ((if q_cc .lt x4 0 = true then 166 else 159), [.ref w, .int x1, .ref (w + 11), .int x3, .int x4, .int x5, .int x6], []) from rfl)).trans ?_
  by_cases c1 : x4 < 0
  · rw [if_pos (show q_cc .lt x4 0 = true from decide_eq_true c1)]
    refine Eq.trans ?_ (if_pos c1).symm
    refine (q_blk (Y := mX2_flyOn) (q_dcC dX2_flyOn_166 (q_dcC dX2_flyOn_167 (q_dcC dX2_flyOn_168 q_dcN))) (show _ = some (170, [.ref w, .int x1, .ref (w + 11), .int x3, .int x4, .int x5, .int x6], [.int 9, .int x1, .ref (w + 11)]) from rfl)).trans ?_
    exact K_calV (d := d) (Y := mX2_flyOn) (Z := mX7_get) (vs := [.int x1, .int 9]) (rest := []) (la := [.ref (w + 11), .int x1, .int 9]) dX2_flyOn_170 rfl rfl rfl rfl (W_is11 hw) (Nat.le_of_ble_eq_true rfl) rfl (Nat.le_of_ble_eq_true rfl)
  · rw [if_neg (show ¬ q_cc .lt x4 0 = true from fun z => c1 (of_decide_eq_true z))]
    refine Eq.trans ?_ (if_neg c1).symm
    refine (q_blk (Y := mX2_flyOn) (q_dcC dX2_flyOn_159 (q_dcC dX2_flyOn_160 (q_dcC dX2_flyOn_161 q_dcN))) (show _ = some (163, [.ref w, .int x1, .ref (w + 11), .int x3, .int x4, .int x5, .int x6], [.int x4, .int x1, .ref w]) from rfl)).trans ?_
    exact K_calS (d := d) (Y := mX2_flyOn) (Z := mX2_meet) (vs := [.ref w, .int x1, .int x4]) (rest := []) (la := [.ref w, .int x1, .int x4, .retAddr 0, .retAddr 0, .retAddr 0, .retAddr 0]) dX2_flyOn_163 rfl rfl rfl rfl (Nat.le_of_ble_eq_true rfl) rfl (Nat.le_of_ble_eq_true rfl)
theorem B_X2_flyOn_173 {o : q_H} {w : Nat} (hw : q_W w) (d : Nat) (x1 x3 x4 x5 x6 y0 : Int32) (g : Nat → Nat → Int32) : q_sem (d + 1) mX2_flyOn 173 [.ref w, .int x1, .ref (w + 11), .int x3, .int x4, .int x5, .int x6] [.int y0] (q_K o g) = (if 0 ≤ y0 then some (none, q_K o g) else (q_sem d mX2_land 0 [.ref w, .int x1] [] (q_K o g)).bind (fun r => q_sem (d + 1) mX2_flyOn 181 [.ref w, .int x1, .ref (w + 11), .int x3, .int x4, .int x5, .int x6] (r.1.toList ++ []) r.2)) := by
  refine (q_blk (Y := mX2_flyOn) (q_dcC dX2_flyOn_173 q_dcN) (show _ = some ((if q_cc .ge y0 0 = true then 181 else 176), [.ref w, .int x1, .ref (w + 11), .int x3, .int x4, .int x5, .int x6], []) from rfl)).trans ?_
  by_cases c1 : 0 ≤ y0
  · rw [if_pos (show q_cc .ge y0 0 = true from decide_eq_true c1)]
    refine Eq.trans ?_ (if_pos c1).symm
    exact k_vret (Y := mX2_flyOn) dX2_flyOn_181 rfl
  · rw [if_neg (show ¬ q_cc .ge y0 0 = true from fun z => c1 (of_decide_eq_true z))]
    refine Eq.trans ?_ (if_neg c1).symm
    refine (q_blk (Y := mX2_flyOn) (q_dcC dX2_flyOn_176 (q_dcC dX2_flyOn_177 q_dcN)) (show _ = some (178, [.ref w, .int x1, .ref (w + 11), .int x3, .int x4, .int x5, .int x6], [.int x1, .ref w]) from rfl)).trans ?_
    exact K_calS (d := d) (Y := mX2_flyOn) (Z := mX2_land) (vs := [.ref w, .int x1]) (rest := []) (la := [.ref w, .int x1]) dX2_flyOn_178 rfl rfl rfl rfl (Nat.le_of_ble_eq_true rfl) rfl (Nat.le_of_ble_eq_true rfl)
theorem B_X2_flyOn_166 {o : q_H} {w : Nat} (hw : q_W w) (d : Nat) (x1 x3 x4 x5 x6 : Int32) (g : Nat → Nat → Int32) : q_sem (d + 1) mX2_flyOn 166 [.ref w, .int x1, .ref (w + 11), .int x3, .int x4, .int x5, .int x6] [] (q_K o g) = (q_sem d mX7_get 0 [.ref (w + 11), .int x1, .int 9] [] (q_K o g)).bind (fun r => q_sem (d + 1) mX2_flyOn 173 [.ref w, .int x1, .ref (w + 11), .int x3, .int x4, .int x5, .int x6] (r.1.toList ++ []) r.2) := by
  refine (q_blk (Y := mX2_flyOn) (q_dcC dX2_flyOn_166 (q_dcC dX2_flyOn_167 (q_dcC dX2_flyOn_168 q_dcN))) (show _ = some (170, [.ref w, .int x1, .ref (w + 11), .int x3, .int x4, .int x5, .int x6], [.int 9, .int x1, .ref (w + 11)]) from rfl)).trans ?_
  exact K_calV (d := d) (Y := mX2_flyOn) (Z := mX7_get) (vs := [.int x1, .int 9]) (rest := []) (la := [.ref (w + 11), .int x1, .int 9]) dX2_flyOn_170 rfl rfl rfl rfl (W_is11 hw) (Nat.le_of_ble_eq_true rfl) rfl (Nat.le_of_ble_eq_true rfl)
theorem B_X2_flyOn_181 {o : q_H} {w : Nat} (hw : q_W w) (d : Nat) (x1 x3 x4 x5 x6 : Int32) (g : Nat → Nat → Int32) : q_sem (d) mX2_flyOn 181 [.ref w, .int x1, .ref (w + 11), .int x3, .int x4, .int x5, .int x6] [] (q_K o g) = some (none, q_K o g) := by
  exact k_vret (Y := mX2_flyOn) dX2_flyOn_181 rfl
theorem B_X2_fieldOf_0 {o : q_H} {w : Nat} (hw : q_W w) (d : Nat) (x1 : Int32) (g : Nat → Nat → Int32) : q_sem (d + 1) mX2_fieldOf 0 [.ref w, .int x1] [] (q_K o g) = (q_sem d mX7_get 0 [.ref (w + 11), .int x1, .int 11] [] (q_K o g)).bind (fun r => q_sem (d + 1) mX2_fieldOf 14 [.ref w, .int x1] (r.1.toList ++ [.ref (w + 7)]) r.2) := by
  refine (q_blk (Y := mX2_fieldOf) (q_dcC dX2_fieldOf_0 q_dcN) (show _ = some (1, [.ref w, .int x1], [.ref w]) from rfl)).trans ?_
  refine (k_getr (Y := mX2_fieldOf) dX2_fieldOf_1 rfl rfl (W_is0 hw) (by decide) (W_r0_3 hw)).trans ?_
  refine (q_blk (Y := mX2_fieldOf) (q_dcC dX2_fieldOf_4 q_dcN) (show _ = some (5, [.ref w, .int x1], [.ref w, .ref (w + 7)]) from rfl)).trans ?_
  refine (k_getr (Y := mX2_fieldOf) dX2_fieldOf_5 rfl rfl (W_is0 hw) (by decide) (W_r0_5 hw)).trans ?_
  refine (q_blk (Y := mX2_fieldOf) (q_dcC dX2_fieldOf_8 (q_dcC dX2_fieldOf_9 q_dcN)) (show _ = some (11, [.ref w, .int x1], [.int 11, .int x1, .ref (w + 11), .ref (w + 7)]) from rfl)).trans ?_
  exact K_calV (d := d) (Y := mX2_fieldOf) (Z := mX7_get) (vs := [.int x1, .int 11]) (rest := [.ref (w + 7)]) (la := [.ref (w + 11), .int x1, .int 11]) dX2_fieldOf_11 rfl rfl rfl rfl (W_is11 hw) (Nat.le_of_ble_eq_true rfl) rfl (Nat.le_of_ble_eq_true rfl)
theorem B_X2_fieldOf_14 {o : q_H} {w : Nat} (hw : q_W w) (d : Nat) (x1 y0 : Int32) (g : Nat → Nat → Int32) : q_sem (d + 1) mX2_fieldOf 14 [.ref w, .int x1] [.int y0, .ref (w + 7)] (q_K o g) = (q_sem d mX7_get 0 [.ref (w + 7), .int y0, .int 0] [] (q_K o g)).bind (fun r => q_sem (d + 1) mX2_fieldOf 18 [.ref w, .int x1] (r.1.toList ++ []) r.2) := by
  refine (q_blk (Y := mX2_fieldOf) (q_dcC dX2_fieldOf_14 q_dcN) (show _ = some (15, [.ref w, .int x1], [.int 0, .int y0, .ref (w + 7)]) from rfl)).trans ?_
  exact K_calV (d := d) (Y := mX2_fieldOf) (Z := mX7_get) (vs := [.int y0, .int 0]) (rest := []) (la := [.ref (w + 7), .int y0, .int 0]) dX2_fieldOf_15 rfl rfl rfl rfl (W_is7 hw) (Nat.le_of_ble_eq_true rfl) rfl (Nat.le_of_ble_eq_true rfl)
theorem B_X2_fieldOf_18 {o : q_H} {w : Nat} (hw : q_W w) (d : Nat) (x1 y0 : Int32) (g : Nat → Nat → Int32) : q_sem (d) mX2_fieldOf 18 [.ref w, .int x1] [.int y0] (q_K o g) = some (some (.int y0), q_K o g) := by
  exact k_iret (Y := mX2_fieldOf) dX2_fieldOf_18 rfl
theorem B_X2_meet_0 {o : q_H} {w : Nat} (hw : q_W w) (d : Nat) (x1 x2 : Int32) (g : Nat → Nat → Int32) : q_sem (d + 1) mX2_meet 0 [.ref w, .int x1, .int x2, .retAddr 0, .retAddr 0, .retAddr 0, .retAddr 0] [] (q_K o g) = (q_sem d mX7_get 0 [.ref (w + 11), .int x1, .int 1] [] (q_K o g)).bind (fun r => q_sem (d + 1) mX2_meet 11 [.ref w, .int x1, .int x2, .ref (w + 11), .retAddr 0, .retAddr 0, .retAddr 0] (r.1.toList ++ []) r.2) := by
  refine (q_blk (Y := mX2_meet) (q_dcC dX2_meet_0 q_dcN) (show _ = some (1, [.ref w, .int x1, .int x2, .retAddr 0, .retAddr 0, .retAddr 0, .retAddr 0], [.ref w]) from rfl)).trans ?_
  refine (k_getr (Y := mX2_meet) dX2_meet_1 rfl rfl (W_is0 hw) (by decide) (W_r0_5 hw)).trans ?_
  refine (q_blk (Y := mX2_meet) (q_dcC dX2_meet_4 (q_dcC dX2_meet_5 (q_dcC dX2_meet_6 (q_dcC dX2_meet_7 q_dcN)))) (show _ = some (8, [.ref w, .int x1, .int x2, .ref (w + 11), .retAddr 0, .retAddr 0, .retAddr 0], [.int 1, .int x1, .ref (w + 11)]) from rfl)).trans ?_
  exact K_calV (d := d) (Y := mX2_meet) (Z := mX7_get) (vs := [.int x1, .int 1]) (rest := []) (la := [.ref (w + 11), .int x1, .int 1]) dX2_meet_8 rfl rfl rfl rfl (W_is11 hw) (Nat.le_of_ble_eq_true rfl) rfl (Nat.le_of_ble_eq_true rfl)
theorem B_X2_meet_11 {o : q_H} {w : Nat} (hw : q_W w) (d : Nat) (x1 x2 y0 : Int32) (g : Nat → Nat → Int32) : q_sem (d + 1) mX2_meet 11 [.ref w, .int x1, .int x2, .ref (w + 11), .retAddr 0, .retAddr 0, .retAddr 0] [.int y0] (q_K o g) = (q_sem d mX7_get 0 [.ref (w + 11), .int x1, .int 2] [] (q_K o g)).bind (fun r => q_sem (d + 1) mX2_meet 17 [.ref w, .int x1, .int x2, .ref (w + 11), .retAddr 0, .retAddr 0, .retAddr 0] (r.1.toList ++ [.int y0]) r.2) := by
  refine (q_blk (Y := mX2_meet) (q_dcC dX2_meet_11 (q_dcC dX2_meet_12 (q_dcC dX2_meet_13 q_dcN))) (show _ = some (14, [.ref w, .int x1, .int x2, .ref (w + 11), .retAddr 0, .retAddr 0, .retAddr 0], [.int 2, .int x1, .ref (w + 11), .int y0]) from rfl)).trans ?_
  exact K_calV (d := d) (Y := mX2_meet) (Z := mX7_get) (vs := [.int x1, .int 2]) (rest := [.int y0]) (la := [.ref (w + 11), .int x1, .int 2]) dX2_meet_14 rfl rfl rfl rfl (W_is11 hw) (Nat.le_of_ble_eq_true rfl) rfl (Nat.le_of_ble_eq_true rfl)
theorem B_X2_meet_17 {o : q_H} {w : Nat} (hw : q_W w) (d : Nat) (x1 x2 y0 y1 : Int32) (g : Nat → Nat → Int32) : q_sem (d + 1) mX2_meet 17 [.ref w, .int x1, .int x2, .ref (w + 11), .retAddr 0, .retAddr 0, .retAddr 0] [.int y0, .int y1] (q_K o g) = (q_sem d mX7_get 0 [.ref (w + 11), .int x2, .int 1] [] (q_K o g)).bind (fun r => q_sem (d + 1) mX2_meet 23 [.ref w, .int x1, .int x2, .ref (w + 11), .retAddr 0, .retAddr 0, .retAddr 0] (r.1.toList ++ [.int y0, .int y1]) r.2) := by
  refine (q_blk (Y := mX2_meet) (q_dcC dX2_meet_17 (q_dcC dX2_meet_18 (q_dcC dX2_meet_19 q_dcN))) (show _ = some (20, [.ref w, .int x1, .int x2, .ref (w + 11), .retAddr 0, .retAddr 0, .retAddr 0], [.int 1, .int x2, .ref (w + 11), .int y0, .int y1]) from rfl)).trans ?_
  exact K_calV (d := d) (Y := mX2_meet) (Z := mX7_get) (vs := [.int x2, .int 1]) (rest := [.int y0, .int y1]) (la := [.ref (w + 11), .int x2, .int 1]) dX2_meet_20 rfl rfl rfl rfl (W_is11 hw) (Nat.le_of_ble_eq_true rfl) rfl (Nat.le_of_ble_eq_true rfl)
theorem B_X2_meet_23 {o : q_H} {w : Nat} (hw : q_W w) (d : Nat) (x1 x2 y0 y1 y2 : Int32) (g : Nat → Nat → Int32) : q_sem (d + 1) mX2_meet 23 [.ref w, .int x1, .int x2, .ref (w + 11), .retAddr 0, .retAddr 0, .retAddr 0] [.int y0, .int y1, .int y2] (q_K o g) = (q_sem d mX7_get 0 [.ref (w + 11), .int x2, .int 2] [] (q_K o g)).bind (fun r => q_sem (d + 1) mX2_meet 29 [.ref w, .int x1, .int x2, .ref (w + 11), .retAddr 0, .retAddr 0, .retAddr 0] (r.1.toList ++ [.int y0, .int y1, .int y2]) r.2) := by
  refine (q_blk (Y := mX2_meet) (q_dcC dX2_meet_23 (q_dcC dX2_meet_24 (q_dcC dX2_meet_25 q_dcN))) (show _ = some (26, [.ref w, .int x1, .int x2, .ref (w + 11), .retAddr 0, .retAddr 0, .retAddr 0], [.int 2, .int x2, .ref (w + 11), .int y0, .int y1, .int y2]) from rfl)).trans ?_
  exact K_calV (d := d) (Y := mX2_meet) (Z := mX7_get) (vs := [.int x2, .int 2]) (rest := [.int y0, .int y1, .int y2]) (la := [.ref (w + 11), .int x2, .int 2]) dX2_meet_26 rfl rfl rfl rfl (W_is11 hw) (Nat.le_of_ble_eq_true rfl) rfl (Nat.le_of_ble_eq_true rfl)
theorem B_X2_meet_29 {o : q_H} {w : Nat} (hw : q_W w) (d : Nat) (x1 x2 y0 y1 y2 y3 : Int32) (g : Nat → Nat → Int32) : q_sem (d + 1) mX2_meet 29 [.ref w, .int x1, .int x2, .ref (w + 11), .retAddr 0, .retAddr 0, .retAddr 0] [.int y0, .int y1, .int y2, .int y3] (q_K o g) = (q_sem d mX10_meets 0 [.int y3, .int y2, .int y1, .int y0] [] (q_K o g)).bind (fun r => q_sem (d + 1) mX2_meet 32 [.ref w, .int x1, .int x2, .ref (w + 11), .retAddr 0, .retAddr 0, .retAddr 0] (r.1.toList ++ []) r.2) := by
  exact K_calS (d := d) (Y := mX2_meet) (Z := mX10_meets) (vs := [.int y3, .int y2, .int y1, .int y0]) (rest := []) (la := [.int y3, .int y2, .int y1, .int y0]) dX2_meet_29 rfl rfl rfl rfl (Nat.le_of_ble_eq_true rfl) rfl (Nat.le_of_ble_eq_true rfl)
theorem B_X2_meet_32 {o : q_H} {w : Nat} (hw : q_W w) (d : Nat) (x1 x2 y0 : Int32) (g : Nat → Nat → Int32) : q_sem (d + 1) mX2_meet 32 [.ref w, .int x1, .int x2, .ref (w + 11), .retAddr 0, .retAddr 0, .retAddr 0] [.int y0] (q_K o g) = (if y0 = 0 then some (none, q_K o g) else (q_sem d mX7_get 0 [.ref (w + 11), .int x1, .int 8] [] (q_K o g)).bind (fun r => q_sem (d + 1) mX2_meet 43 [.ref w, .int x1, .int x2, .ref (w + 11), .retAddr 0, .retAddr 0, .retAddr 0] (r.1.toList ++ []) r.2)) := by
  refine (q_blk (Y := mX2_meet) (q_dcC dX2_meet_32 q_dcN) (show _ = some ((if q_cc .ne y0 0 = true then 36 else 35), [.ref w, .int x1, .int x2, .ref (w + 11), .retAddr 0, .retAddr 0, .retAddr 0], []) from rfl)).trans ?_
  by_cases c1 : y0 = 0
  · rw [if_neg (show ¬ q_cc .ne y0 0 = true from fun z => (of_decide_eq_true z : ¬ y0 = 0) c1)]
    refine Eq.trans ?_ (if_pos c1).symm
    exact k_vret (Y := mX2_meet) dX2_meet_35 rfl
  · rw [if_pos (show q_cc .ne y0 0 = true from decide_eq_true c1)]
    refine Eq.trans ?_ (if_neg c1).symm
    refine (q_blk (Y := mX2_meet) (q_dcC dX2_meet_36 (q_dcC dX2_meet_37 (q_dcC dX2_meet_38 q_dcN))) (show _ = some (40, [.ref w, .int x1, .int x2, .ref (w + 11), .retAddr 0, .retAddr 0, .retAddr 0], [.int 8, .int x1, .ref (w + 11)]) from rfl)).trans ?_
    exact K_calV (d := d) (Y := mX2_meet) (Z := mX7_get) (vs := [.int x1, .int 8]) (rest := []) (la := [.ref (w + 11), .int x1, .int 8]) dX2_meet_40 rfl rfl rfl rfl (W_is11 hw) (Nat.le_of_ble_eq_true rfl) rfl (Nat.le_of_ble_eq_true rfl)
theorem B_X2_meet_43 {o : q_H} {w : Nat} (hw : q_W w) (d : Nat) (x1 x2 y0 : Int32) (g : Nat → Nat → Int32) : q_sem (d + 1) mX2_meet 43 [.ref w, .int x1, .int x2, .ref (w + 11), .retAddr 0, .retAddr 0, .retAddr 0] [.int y0] (q_K o g) = (q_sem d mX7_get 0 [.ref (w + 11), .int x2, .int 5] [] (q_K o g)).bind (fun r => q_sem (d + 1) mX2_meet 51 [.ref w, .int x1, .int x2, .ref (w + 11), .int y0, .retAddr 0, .retAddr 0] (r.1.toList ++ []) r.2) := by
  refine (q_blk (Y := mX2_meet) (q_dcC dX2_meet_43 (q_dcC dX2_meet_45 (q_dcC dX2_meet_46 (q_dcC dX2_meet_47 q_dcN)))) (show _ = some (48, [.ref w, .int x1, .int x2, .ref (w + 11), .int y0, .retAddr 0, .retAddr 0], [.int 5, .int x2, .ref (w + 11)]) from rfl)).trans ?_
  exact K_calV (d := d) (Y := mX2_meet) (Z := mX7_get) (vs := [.int x2, .int 5]) (rest := []) (la := [.ref (w + 11), .int x2, .int 5]) dX2_meet_48 rfl rfl rfl rfl (W_is11 hw) (Nat.le_of_ble_eq_true rfl) rfl (Nat.le_of_ble_eq_true rfl)
theorem B_X2_meet_51 {o : q_H} {w : Nat} (hw : q_W w) (d : Nat) (x1 x2 x4 y0 : Int32) (g : Nat → Nat → Int32) : q_sem (d + 1) mX2_meet 51 [.ref w, .int x1, .int x2, .ref (w + 11), .int x4, .retAddr 0, .retAddr 0] [.int y0] (q_K o g) = (q_sem d mX7_write 0 [.ref (w + 11), .int x1, .int 8, .int (x4 - (if y0 < x4 then y0 else x4))] [] (q_K o g)).bind (fun r => q_sem (d + 1) mX2_meet 74 [.ref w, .int x1, .int x2, .ref (w + 11), .int x4, .int y0, .int (if y0 < x4 then y0 else x4)] (r.1.toList ++ []) r.2) := by
  refine (q_blk (Y := mX2_meet) (q_dcC dX2_meet_51 (q_dcC dX2_meet_53 (q_dcC dX2_meet_55 q_dcN))) (show _ = some (57, [.ref w, .int x1, .int x2, .ref (w + 11), .int x4, .int y0, .retAddr 0], [.int y0, .int x4]) from rfl)).trans ?_
  refine (k_min (Y := mX2_meet) dX2_meet_57 rfl rfl (by decide) (by decide) (by decide) (Nat.le_of_ble_eq_true rfl)).trans ?_
  refine (q_blk (Y := mX2_meet) (q_dcC dX2_meet_60 (q_dcC dX2_meet_62 (q_dcC dX2_meet_63 (q_dcC dX2_meet_64 (q_dcC dX2_meet_66 (q_dcC dX2_meet_68 (q_dcC dX2_meet_70 q_dcN))))))) (show _ = some (71, [.ref w, .int x1, .int x2, .ref (w + 11), .int x4, .int y0, .int (if y0 < x4 then y0 else x4)], [.int (x4 - (if y0 < x4 then y0 else x4)), .int 8, .int x1, .ref (w + 11)]) from rfl)).trans ?_
  exact K_calV (d := d) (Y := mX2_meet) (Z := mX7_write) (vs := [.int x1, .int 8, .int (x4 - (if y0 < x4 then y0 else x4))]) (rest := []) (la := [.ref (w + 11), .int x1, .int 8, .int (x4 - (if y0 < x4 then y0 else x4))]) dX2_meet_71 rfl rfl rfl rfl (W_is11 hw) (Nat.le_of_ble_eq_true rfl) rfl (Nat.le_of_ble_eq_true rfl)
theorem B_X2_meet_74 {o : q_H} {w : Nat} (hw : q_W w) (d : Nat) (x1 x2 x4 x5 x6 : Int32) (g : Nat → Nat → Int32) : q_sem (d + 1) mX2_meet 74 [.ref w, .int x1, .int x2, .ref (w + 11), .int x4, .int x5, .int x6] [] (q_K o g) = (q_sem d mX7_write 0 [.ref (w + 11), .int x2, .int 5, .int (x5 - x6)] [] (q_K o g)).bind (fun r => q_sem (d + 1) mX2_meet 85 [.ref w, .int x1, .int x2, .ref (w + 11), .int x4, .int x5, .int x6] (r.1.toList ++ []) r.2) := by
  refine (q_blk (Y := mX2_meet) (q_dcC dX2_meet_74 (q_dcC dX2_meet_75 (q_dcC dX2_meet_76 (q_dcC dX2_meet_77 (q_dcC dX2_meet_79 (q_dcC dX2_meet_81 q_dcN)))))) (show _ = some (82, [.ref w, .int x1, .int x2, .ref (w + 11), .int x4, .int x5, .int x6], [.int (x5 - x6), .int 5, .int x2, .ref (w + 11)]) from rfl)).trans ?_
  exact K_calV (d := d) (Y := mX2_meet) (Z := mX7_write) (vs := [.int x2, .int 5, .int (x5 - x6)]) (rest := []) (la := [.ref (w + 11), .int x2, .int 5, .int (x5 - x6)]) dX2_meet_82 rfl rfl rfl rfl (W_is11 hw) (Nat.le_of_ble_eq_true rfl) rfl (Nat.le_of_ble_eq_true rfl)
theorem B_X2_meet_85 {o : q_H} {w : Nat} (hw : q_W w) (d : Nat) (x1 x2 x4 x5 x6 : Int32) (g : Nat → Nat → Int32) : q_sem (d + 1) mX2_meet 85 [.ref w, .int x1, .int x2, .ref (w + 11), .int x4, .int x5, .int x6] [] (q_K o g) = (if x5 = x6 then (q_sem d mX7_write 0 [.ref (w + 11), .int x2, .int 6, .int 2] [] (q_K o g)).bind (fun r => q_sem (d + 1) mX2_meet 100 [.ref w, .int x1, .int x2, .ref (w + 11), .int x4, .int x5, .int x6] (r.1.toList ++ []) r.2) else (if x4 = x6 then (q_sem d mX7_write 0 [.ref (w + 11), .int x1, .int 9, .int (-1)] [] (q_K o g)).bind (fun r => q_sem (d + 1) mX2_meet 115 [.ref w, .int x1, .int x2, .ref (w + 11), .int x4, .int x5, .int x6] (r.1.toList ++ []) r.2) else some (none, q_K o g))) := by
  refine (q_blk (Y := mX2_meet) (q_dcC dX2_meet_85 (q_dcC dX2_meet_87 (q_dcC dX2_meet_89 q_dcN))) (show _ = some ((if q_cc .ne x5 x6 = true then 100 else 92), [.ref w, .int x1, .int x2, .ref (w + 11), .int x4, .int x5, .int x6], []) from rfl)).trans ?_
  by_cases c1 : x5 = x6
  · rw [if_neg (show ¬ q_cc .ne x5 x6 = true from fun z => (of_decide_eq_true z : ¬ x5 = x6) c1)]
    refine Eq.trans ?_ (if_pos c1).symm
    refine (q_blk (Y := mX2_meet) (q_dcC dX2_meet_92 (q_dcC dX2_meet_93 (q_dcC dX2_meet_94 (q_dcC dX2_meet_96 q_dcN)))) (show _ = some (97, [.ref w, .int x1, .int x2, .ref (w + 11), .int x4, .int x5, .int x6], [.int 2, .int 6, .int x2, .ref (w + 11)]) from rfl)).trans ?_
    exact K_calV (d := d) (Y := mX2_meet) (Z := mX7_write) (vs := [.int x2, .int 6, .int 2]) (rest := []) (la := [.ref (w + 11), .int x2, .int 6, .int 2]) dX2_meet_97 rfl rfl rfl rfl (W_is11 hw) (Nat.le_of_ble_eq_true rfl) rfl (Nat.le_of_ble_eq_true rfl)
  · rw [if_pos (show q_cc .ne x5 x6 = true from decide_eq_true c1)]
    refine Eq.trans ?_ (if_neg c1).symm
    refine (q_blk (Y := mX2_meet) (q_dcC dX2_meet_100 (q_dcC dX2_meet_102 (q_dcC dX2_meet_104 q_dcN))) (show _ = some ((if q_cc .ne x4 x6 = true then 115 else 107), [.ref w, .int x1, .int x2, .ref (w + 11), .int x4, .int x5, .int x6], []) from rfl)).trans ?_
    by_cases c2 : x4 = x6
    · rw [if_neg (show ¬ q_cc .ne x4 x6 = true from fun z => (of_decide_eq_true z : ¬ x4 = x6) c2)]
      refine Eq.trans ?_ (if_pos c2).symm
      refine (q_blk (Y := mX2_meet) (q_dcC dX2_meet_107 (q_dcC dX2_meet_108 (q_dcC dX2_meet_109 (q_dcC dX2_meet_111 q_dcN)))) (show _ = some (112, [.ref w, .int x1, .int x2, .ref (w + 11), .int x4, .int x5, .int x6], [.int (-1), .int 9, .int x1, .ref (w + 11)]) from rfl)).trans ?_
      exact K_calV (d := d) (Y := mX2_meet) (Z := mX7_write) (vs := [.int x1, .int 9, .int (-1)]) (rest := []) (la := [.ref (w + 11), .int x1, .int 9, .int (-1)]) dX2_meet_112 rfl rfl rfl rfl (W_is11 hw) (Nat.le_of_ble_eq_true rfl) rfl (Nat.le_of_ble_eq_true rfl)
    · rw [if_pos (show q_cc .ne x4 x6 = true from decide_eq_true c2)]
      refine Eq.trans ?_ (if_neg c2).symm
      exact k_vret (Y := mX2_meet) dX2_meet_115 rfl
theorem B_X2_meet_100 {o : q_H} {w : Nat} (hw : q_W w) (d : Nat) (x1 x2 x4 x5 x6 : Int32) (g : Nat → Nat → Int32) : q_sem (d + 1) mX2_meet 100 [.ref w, .int x1, .int x2, .ref (w + 11), .int x4, .int x5, .int x6] [] (q_K o g) = (if x4 = x6 then (q_sem d mX7_write 0 [.ref (w + 11), .int x1, .int 9, .int (-1)] [] (q_K o g)).bind (fun r => q_sem (d + 1) mX2_meet 115 [.ref w, .int x1, .int x2, .ref (w + 11), .int x4, .int x5, .int x6] (r.1.toList ++ []) r.2) else some (none, q_K o g)) := by
  refine (q_blk (Y := mX2_meet) (q_dcC dX2_meet_100 (q_dcC dX2_meet_102 (q_dcC dX2_meet_104 q_dcN))) (show _ = some ((if q_cc .ne x4 x6 = true then 115 else 107), [.ref w, .int x1, .int x2, .ref (w + 11), .int x4, .int x5, .int x6], []) from rfl)).trans ?_
  by_cases c1 : x4 = x6
  · rw [if_neg (show ¬ q_cc .ne x4 x6 = true from fun z => (of_decide_eq_true z : ¬ x4 = x6) c1)]
    refine Eq.trans ?_ (if_pos c1).symm
    refine (q_blk (Y := mX2_meet) (q_dcC dX2_meet_107 (q_dcC dX2_meet_108 (q_dcC dX2_meet_109 (q_dcC dX2_meet_111 q_dcN)))) (show _ = some (112, [.ref w, .int x1, .int x2, .ref (w + 11), .int x4, .int x5, .int x6], [.int (-1), .int 9, .int x1, .ref (w + 11)]) from rfl)).trans ?_
    exact K_calV (d := d) (Y := mX2_meet) (Z := mX7_write) (vs := [.int x1, .int 9, .int (-1)]) (rest := []) (la := [.ref (w + 11), .int x1, .int 9, .int (-1)]) dX2_meet_112 rfl rfl rfl rfl (W_is11 hw) (Nat.le_of_ble_eq_true rfl) rfl (Nat.le_of_ble_eq_true rfl)
  · rw [if_pos (show q_cc .ne x4 x6 = true from decide_eq_true c1)]
    refine Eq.trans ?_ (if_neg c1).symm
    exact k_vret (Y := mX2_meet) dX2_meet_115 rfl
theorem B_X2_meet_115 {o : q_H} {w : Nat} (hw : q_W w) (d : Nat) (x1 x2 x4 x5 x6 : Int32) (g : Nat → Nat → Int32) : q_sem (d) mX2_meet 115 [.ref w, .int x1, .int x2, .ref (w + 11), .int x4, .int x5, .int x6] [] (q_K o g) = some (none, q_K o g) := by
  exact k_vret (Y := mX2_meet) dX2_meet_115 rfl
theorem B_X2_land_0 {o : q_H} {w : Nat} (hw : q_W w) (d : Nat) (x1 : Int32) (g : Nat → Nat → Int32) : q_sem (d + 1) mX2_land 0 [.ref w, .int x1] [] (q_K o g) = (q_sem d mX7_get 0 [.ref (w + 11), .int x1, .int 1] [] (q_K o g)).bind (fun r => q_sem (d + 1) mX2_land 9 [.ref w, .int x1] (r.1.toList ++ []) r.2) := by
  refine (q_blk (Y := mX2_land) (q_dcC dX2_land_0 q_dcN) (show _ = some (1, [.ref w, .int x1], [.ref w]) from rfl)).trans ?_
  refine (k_getr (Y := mX2_land) dX2_land_1 rfl rfl (W_is0 hw) (by decide) (W_r0_5 hw)).trans ?_
  refine (q_blk (Y := mX2_land) (q_dcC dX2_land_4 (q_dcC dX2_land_5 q_dcN)) (show _ = some (6, [.ref w, .int x1], [.int 1, .int x1, .ref (w + 11)]) from rfl)).trans ?_
  exact K_calV (d := d) (Y := mX2_land) (Z := mX7_get) (vs := [.int x1, .int 1]) (rest := []) (la := [.ref (w + 11), .int x1, .int 1]) dX2_land_6 rfl rfl rfl rfl (W_is11 hw) (Nat.le_of_ble_eq_true rfl) rfl (Nat.le_of_ble_eq_true rfl)
theorem B_X2_land_9 {o : q_H} {w : Nat} (hw : q_W w) (d : Nat) (x1 y0 : Int32) (g : Nat → Nat → Int32) : q_sem (d + 1) mX2_land 9 [.ref w, .int x1] [.int y0] (q_K o g) = (q_sem d mX2_fieldOf 0 [.ref w, .int x1] [] (q_K o g)).bind (fun r => q_sem (d + 1) mX2_land 14 [.ref w, .int x1] (r.1.toList ++ [.int y0]) r.2) := by
  refine (q_blk (Y := mX2_land) (q_dcC dX2_land_9 (q_dcC dX2_land_10 q_dcN)) (show _ = some (11, [.ref w, .int x1], [.int x1, .ref w, .int y0]) from rfl)).trans ?_
  exact K_calS (d := d) (Y := mX2_land) (Z := mX2_fieldOf) (vs := [.ref w, .int x1]) (rest := [.int y0]) (la := [.ref w, .int x1]) dX2_land_11 rfl rfl rfl rfl (Nat.le_of_ble_eq_true rfl) rfl (Nat.le_of_ble_eq_true rfl)
theorem B_X2_land_14 {o : q_H} {w : Nat} (hw : q_W w) (d : Nat) (x1 y0 y1 : Int32) (g : Nat → Nat → Int32) : q_sem (d + 1) mX2_land 14 [.ref w, .int x1] [.int y0, .int y1] (q_K o g) = (if y1 = y0 then (q_sem d mX7_write 0 [.ref (w + 11), .int x1, .int 6, .int 1] [] (q_K o g)).bind (fun r => q_sem (d + 1) mX2_land 28 [.ref w, .int x1] (r.1.toList ++ []) r.2) else some (none, q_K o g)) := by
  refine (q_blk (Y := mX2_land) (q_dcC dX2_land_14 q_dcN) (show _ = some ((if q_cc .ne y1 y0 = true then 38 else 17), [.ref w, .int x1], []) from rfl)).trans ?_
  by_cases c1 : y1 = y0
  · rw [if_neg (show ¬ q_cc .ne y1 y0 = true from fun z => (of_decide_eq_true z : ¬ y1 = y0) c1)]
    refine Eq.trans ?_ (if_pos c1).symm
    refine (q_blk (Y := mX2_land) (q_dcC dX2_land_17 q_dcN) (show _ = some (18, [.ref w, .int x1], [.ref w]) from rfl)).trans ?_
    refine (k_getr (Y := mX2_land) dX2_land_18 rfl rfl (W_is0 hw) (by decide) (W_r0_5 hw)).trans ?_
    refine (q_blk (Y := mX2_land) (q_dcC dX2_land_21 (q_dcC dX2_land_22 (q_dcC dX2_land_24 q_dcN))) (show _ = some (25, [.ref w, .int x1], [.int 1, .int 6, .int x1, .ref (w + 11)]) from rfl)).trans ?_
    exact K_calV (d := d) (Y := mX2_land) (Z := mX7_write) (vs := [.int x1, .int 6, .int 1]) (rest := []) (la := [.ref (w + 11), .int x1, .int 6, .int 1]) dX2_land_25 rfl rfl rfl rfl (W_is11 hw) (Nat.le_of_ble_eq_true rfl) rfl (Nat.le_of_ble_eq_true rfl)
  · rw [if_pos (show q_cc .ne y1 y0 = true from decide_eq_true c1)]
    refine Eq.trans ?_ (if_neg c1).symm
    exact k_vret (Y := mX2_land) dX2_land_38 rfl
theorem B_X2_land_28 {o : q_H} {w : Nat} (hw : q_W w) (d : Nat) (x1 : Int32) (g : Nat → Nat → Int32) : q_sem (d + 1) mX2_land 28 [.ref w, .int x1] [] (q_K o g) = (q_sem d mX7_write 0 [.ref (w + 11), .int x1, .int 2, .int 0] [] (q_K o g)).bind (fun r => q_sem (d + 1) mX2_land 38 [.ref w, .int x1] (r.1.toList ++ []) r.2) := by
  refine (q_blk (Y := mX2_land) (q_dcC dX2_land_28 q_dcN) (show _ = some (29, [.ref w, .int x1], [.ref w]) from rfl)).trans ?_
  refine (k_getr (Y := mX2_land) dX2_land_29 rfl rfl (W_is0 hw) (by decide) (W_r0_5 hw)).trans ?_
  refine (q_blk (Y := mX2_land) (q_dcC dX2_land_32 (q_dcC dX2_land_33 (q_dcC dX2_land_34 q_dcN))) (show _ = some (35, [.ref w, .int x1], [.int 0, .int 2, .int x1, .ref (w + 11)]) from rfl)).trans ?_
  exact K_calV (d := d) (Y := mX2_land) (Z := mX7_write) (vs := [.int x1, .int 2, .int 0]) (rest := []) (la := [.ref (w + 11), .int x1, .int 2, .int 0]) dX2_land_35 rfl rfl rfl rfl (W_is11 hw) (Nat.le_of_ble_eq_true rfl) rfl (Nat.le_of_ble_eq_true rfl)
theorem B_X2_land_38 {o : q_H} {w : Nat} (hw : q_W w) (d : Nat) (x1 : Int32) (g : Nat → Nat → Int32) : q_sem (d) mX2_land 38 [.ref w, .int x1] [] (q_K o g) = some (none, q_K o g) := by
  exact k_vret (Y := mX2_land) dX2_land_38 rfl
theorem B_X2_sound_0 {o : q_H} {w : Nat} (hw : q_W w) (d : Nat) (x1 : Int32) (g : Nat → Nat → Int32) : q_sem (d + 1) mX2_sound 0 [.ref w, .int x1, .retAddr 0, .retAddr 0, .retAddr 0] [] (q_K o g) = (q_sem d mX10_wails 0 [.ref w, .int x1, .retAddr 0, .retAddr 0] [] (q_K o g)).bind (fun r => q_sem (d + 1) mX2_sound 5 [.ref w, .int x1, .retAddr 0, .retAddr 0, .retAddr 0] (r.1.toList ++ []) r.2) := by
  refine (q_blk (Y := mX2_sound) (q_dcC dX2_sound_0 (q_dcC dX2_sound_1 q_dcN)) (show _ = some (2, [.ref w, .int x1, .retAddr 0, .retAddr 0, .retAddr 0], [.int x1, .ref w]) from rfl)).trans ?_
  exact K_calV (d := d) (Y := mX2_sound) (Z := mX10_wails) (vs := [.int x1]) (rest := []) (la := [.ref w, .int x1, .retAddr 0, .retAddr 0]) dX2_sound_2 rfl rfl rfl rfl (W_is0 hw) (Nat.le_of_ble_eq_true rfl) rfl (Nat.le_of_ble_eq_true rfl)
theorem B_X2_sound_5 {o : q_H} {w : Nat} (hw : q_W w) (d : Nat) (x1 y0 : Int32) (g : Nat → Nat → Int32) : q_sem (d + 1) mX2_sound 5 [.ref w, .int x1, .retAddr 0, .retAddr 0, .retAddr 0] [.int y0] (q_K o g) = (if y0 = 0 then (if y0 = 0 then (q_sem d mX7_get 0 [.ref (w + 9), .int x1, .int 0] [] (q_K o g)).bind (fun r => q_sem (d + 1) mX2_sound 34 [.ref w, .int x1, .int y0, .int 3, .retAddr 0] (r.1.toList ++ [.ref w]) r.2) else (if y0 = 0 then (q_sem d mX7_write 0 [.ref (w + 9), .int x1, .int 1, .int 0] [] (q_K o g)).bind (fun r => q_sem (d + 1) mX2_sound 57 [.ref w, .int x1, .int y0, .int 3, .int 1] (r.1.toList ++ []) r.2) else (q_sem d mX7_write 0 [.ref (w + 9), .int x1, .int 1, .int 1] [] (q_K o g)).bind (fun r => q_sem (d + 1) mX2_sound 57 [.ref w, .int x1, .int y0, .int 3, .int 1] (r.1.toList ++ []) r.2))) else (if y0 = 0 then (q_sem d mX7_get 0 [.ref (w + 9), .int x1, .int 0] [] (q_K o g)).bind (fun r => q_sem (d + 1) mX2_sound 34 [.ref w, .int x1, .int y0, .int 2, .retAddr 0] (r.1.toList ++ [.ref w]) r.2) else (if y0 = 0 then (q_sem d mX7_write 0 [.ref (w + 9), .int x1, .int 1, .int 0] [] (q_K o g)).bind (fun r => q_sem (d + 1) mX2_sound 57 [.ref w, .int x1, .int y0, .int 2, .int 1] (r.1.toList ++ []) r.2) else (q_sem d mX7_write 0 [.ref (w + 9), .int x1, .int 1, .int 1] [] (q_K o g)).bind (fun r => q_sem (d + 1) mX2_sound 57 [.ref w, .int x1, .int y0, .int 2, .int 1] (r.1.toList ++ []) r.2)))) := by
  refine (q_blk (Y := mX2_sound) (q_dcC dX2_sound_5 (q_dcC dX2_sound_6 (q_dcC dX2_sound_7 q_dcN))) (show _ = some ((if q_cc .eq y0 0 = true then 14 else 10), [.ref w, .int x1, .int y0, .retAddr 0, .retAddr 0], []) from rfl)).trans ?_
  by_cases c1 : y0 = 0
  · rw [if_pos (show q_cc .eq y0 0 = true from decide_eq_true c1)]
    refine Eq.trans ?_ (if_pos c1).symm
    refine (q_blk (Y := mX2_sound) (q_dcC dX2_sound_14 (q_dcC dX2_sound_15 (q_dcC dX2_sound_16 (q_dcC dX2_sound_17 q_dcN)))) (show _ = some ((if q_cc .eq y0 0 = true then 24 else 20), [.ref w, .int x1, .int y0, .int 3, .retAddr 0], []) from rfl)).trans ?_
    by_cases c2 : y0 = 0
    · rw [if_pos (show q_cc .eq y0 0 = true from decide_eq_true c2)]
      refine Eq.trans ?_ (if_pos c2).symm
      refine (q_blk (Y := mX2_sound) (q_dcC dX2_sound_24 (q_dcC dX2_sound_25 q_dcN)) (show _ = some (26, [.ref w, .int x1, .int y0, .int 3, .retAddr 0], [.ref w, .ref w]) from rfl)).trans ?_
      refine (k_getr (Y := mX2_sound) dX2_sound_26 rfl rfl (W_is0 hw) (by decide) (W_r0_4 hw)).trans ?_
      refine (q_blk (Y := mX2_sound) (q_dcC dX2_sound_29 (q_dcC dX2_sound_30 q_dcN)) (show _ = some (31, [.ref w, .int x1, .int y0, .int 3, .retAddr 0], [.int 0, .int x1, .ref (w + 9), .ref w]) from rfl)).trans ?_
      exact K_calV (d := d) (Y := mX2_sound) (Z := mX7_get) (vs := [.int x1, .int 0]) (rest := [.ref w]) (la := [.ref (w + 9), .int x1, .int 0]) dX2_sound_31 rfl rfl rfl rfl (W_is9 hw) (Nat.le_of_ble_eq_true rfl) rfl (Nat.le_of_ble_eq_true rfl)
    · rw [if_neg (show ¬ q_cc .eq y0 0 = true from fun z => c2 (of_decide_eq_true z))]
      refine Eq.trans ?_ (if_neg c2).symm
      refine (q_blk (Y := mX2_sound) (q_dcC dX2_sound_20 (q_dcC dX2_sound_21 q_dcN)) (show _ = some (37, [.ref w, .int x1, .int y0, .int 3, .retAddr 0], [.int 1]) from rfl)).trans ?_
      refine (q_blk (Y := mX2_sound) (q_dcC dX2_sound_37 (q_dcC dX2_sound_39 q_dcN)) (show _ = some (40, [.ref w, .int x1, .int y0, .int 3, .int 1], [.ref w]) from rfl)).trans ?_
      refine (k_getr (Y := mX2_sound) dX2_sound_40 rfl rfl (W_is0 hw) (by decide) (W_r0_4 hw)).trans ?_
      refine (q_blk (Y := mX2_sound) (q_dcC dX2_sound_43 (q_dcC dX2_sound_44 (q_dcC dX2_sound_45 (q_dcC dX2_sound_46 q_dcN)))) (show _ = some ((if q_cc .eq y0 0 = true then 53 else 49), [.ref w, .int x1, .int y0, .int 3, .int 1], [.int 1, .int x1, .ref (w + 9)]) from rfl)).trans ?_
      by_cases c3 : y0 = 0
      · rw [if_pos (show q_cc .eq y0 0 = true from decide_eq_true c3)]
        refine Eq.trans ?_ (if_pos c3).symm
        refine (q_blk (Y := mX2_sound) (q_dcC dX2_sound_53 q_dcN) (show _ = some (54, [.ref w, .int x1, .int y0, .int 3, .int 1], [.int 0, .int 1, .int x1, .ref (w + 9)]) from rfl)).trans ?_
        exact K_calV (d := d) (Y := mX2_sound) (Z := mX7_write) (vs := [.int x1, .int 1, .int 0]) (rest := []) (la := [.ref (w + 9), .int x1, .int 1, .int 0]) dX2_sound_54 rfl rfl rfl rfl (W_is9 hw) (Nat.le_of_ble_eq_true rfl) rfl (Nat.le_of_ble_eq_true rfl)
      · rw [if_neg (show ¬ q_cc .eq y0 0 = true from fun z => c3 (of_decide_eq_true z))]
        refine Eq.trans ?_ (if_neg c3).symm
        refine (q_blk (Y := mX2_sound) (q_dcC dX2_sound_49 (q_dcC dX2_sound_50 q_dcN)) (show _ = some (54, [.ref w, .int x1, .int y0, .int 3, .int 1], [.int 1, .int 1, .int x1, .ref (w + 9)]) from rfl)).trans ?_
        exact K_calV (d := d) (Y := mX2_sound) (Z := mX7_write) (vs := [.int x1, .int 1, .int 1]) (rest := []) (la := [.ref (w + 9), .int x1, .int 1, .int 1]) dX2_sound_54 rfl rfl rfl rfl (W_is9 hw) (Nat.le_of_ble_eq_true rfl) rfl (Nat.le_of_ble_eq_true rfl)
  · rw [if_neg (show ¬ q_cc .eq y0 0 = true from fun z => c1 (of_decide_eq_true z))]
    refine Eq.trans ?_ (if_neg c1).symm
    refine (q_blk (Y := mX2_sound) (q_dcC dX2_sound_10 (q_dcC dX2_sound_11 q_dcN)) (show _ = some (15, [.ref w, .int x1, .int y0, .retAddr 0, .retAddr 0], [.int 2]) from rfl)).trans ?_
    refine (q_blk (Y := mX2_sound) (q_dcC dX2_sound_15 (q_dcC dX2_sound_16 (q_dcC dX2_sound_17 q_dcN))) (show _ = some ((if q_cc .eq y0 0 = true then 24 else 20), [.ref w, .int x1, .int y0, .int 2, .retAddr 0], []) from rfl)).trans ?_
    by_cases c4 : y0 = 0
    · rw [if_pos (show q_cc .eq y0 0 = true from decide_eq_true c4)]
      refine Eq.trans ?_ (if_pos c4).symm
      refine (q_blk (Y := mX2_sound) (q_dcC dX2_sound_24 (q_dcC dX2_sound_25 q_dcN)) (show _ = some (26, [.ref w, .int x1, .int y0, .int 2, .retAddr 0], [.ref w, .ref w]) from rfl)).trans ?_
      refine (k_getr (Y := mX2_sound) dX2_sound_26 rfl rfl (W_is0 hw) (by decide) (W_r0_4 hw)).trans ?_
      refine (q_blk (Y := mX2_sound) (q_dcC dX2_sound_29 (q_dcC dX2_sound_30 q_dcN)) (show _ = some (31, [.ref w, .int x1, .int y0, .int 2, .retAddr 0], [.int 0, .int x1, .ref (w + 9), .ref w]) from rfl)).trans ?_
      exact K_calV (d := d) (Y := mX2_sound) (Z := mX7_get) (vs := [.int x1, .int 0]) (rest := [.ref w]) (la := [.ref (w + 9), .int x1, .int 0]) dX2_sound_31 rfl rfl rfl rfl (W_is9 hw) (Nat.le_of_ble_eq_true rfl) rfl (Nat.le_of_ble_eq_true rfl)
    · rw [if_neg (show ¬ q_cc .eq y0 0 = true from fun z => c4 (of_decide_eq_true z))]
      refine Eq.trans ?_ (if_neg c4).symm
      refine (q_blk (Y := mX2_sound) (q_dcC dX2_sound_20 (q_dcC dX2_sound_21 q_dcN)) (show _ = some (37, [.ref w, .int x1, .int y0, .int 2, .retAddr 0], [.int 1]) from rfl)).trans ?_
      refine (q_blk (Y := mX2_sound) (q_dcC dX2_sound_37 (q_dcC dX2_sound_39 q_dcN)) (show _ = some (40, [.ref w, .int x1, .int y0, .int 2, .int 1], [.ref w]) from rfl)).trans ?_
      refine (k_getr (Y := mX2_sound) dX2_sound_40 rfl rfl (W_is0 hw) (by decide) (W_r0_4 hw)).trans ?_
      refine (q_blk (Y := mX2_sound) (q_dcC dX2_sound_43 (q_dcC dX2_sound_44 (q_dcC dX2_sound_45 (q_dcC dX2_sound_46 q_dcN)))) (show _ = some ((if q_cc .eq y0 0 = true then 53 else 49), [.ref w, .int x1, .int y0, .int 2, .int 1], [.int 1, .int x1, .ref (w + 9)]) from rfl)).trans ?_
      by_cases c5 : y0 = 0
      · rw [if_pos (show q_cc .eq y0 0 = true from decide_eq_true c5)]
        refine Eq.trans ?_ (if_pos c5).symm
        refine (q_blk (Y := mX2_sound) (q_dcC dX2_sound_53 q_dcN) (show _ = some (54, [.ref w, .int x1, .int y0, .int 2, .int 1], [.int 0, .int 1, .int x1, .ref (w + 9)]) from rfl)).trans ?_
        exact K_calV (d := d) (Y := mX2_sound) (Z := mX7_write) (vs := [.int x1, .int 1, .int 0]) (rest := []) (la := [.ref (w + 9), .int x1, .int 1, .int 0]) dX2_sound_54 rfl rfl rfl rfl (W_is9 hw) (Nat.le_of_ble_eq_true rfl) rfl (Nat.le_of_ble_eq_true rfl)
      · rw [if_neg (show ¬ q_cc .eq y0 0 = true from fun z => c5 (of_decide_eq_true z))]
        refine Eq.trans ?_ (if_neg c5).symm
        refine (q_blk (Y := mX2_sound) (q_dcC dX2_sound_49 (q_dcC dX2_sound_50 q_dcN)) (show _ = some (54, [.ref w, .int x1, .int y0, .int 2, .int 1], [.int 1, .int 1, .int x1, .ref (w + 9)]) from rfl)).trans ?_
        exact K_calV (d := d) (Y := mX2_sound) (Z := mX7_write) (vs := [.int x1, .int 1, .int 1]) (rest := []) (la := [.ref (w + 9), .int x1, .int 1, .int 1]) dX2_sound_54 rfl rfl rfl rfl (W_is9 hw) (Nat.le_of_ble_eq_true rfl) rfl (Nat.le_of_ble_eq_true rfl)
theorem B_X2_sound_34 {o : q_H} {w : Nat} (hw : q_W w) (d : Nat) (x1 x2 x3 y0 : Int32) (g : Nat → Nat → Int32) : q_sem (d + 1) mX2_sound 34 [.ref w, .int x1, .int x2, .int x3, .retAddr 0] [.int y0, .ref w] (q_K o g) = (q_sem d mX2_hits 0 [.ref w, .int y0, .retAddr 0, .retAddr 0] [] (q_K o g)).bind (fun r => q_sem (d + 1) mX2_sound 37 [.ref w, .int x1, .int x2, .int x3, .retAddr 0] (r.1.toList ++ []) r.2) := by
  exact K_calS (d := d) (Y := mX2_sound) (Z := mX2_hits) (vs := [.ref w, .int y0]) (rest := []) (la := [.ref w, .int y0, .retAddr 0, .retAddr 0]) dX2_sound_34 rfl rfl rfl rfl (Nat.le_of_ble_eq_true rfl) rfl (Nat.le_of_ble_eq_true rfl)
theorem B_X2_sound_57 {o : q_H} {w : Nat} (hw : q_W w) (d : Nat) (x1 x2 x3 x4 : Int32) (g : Nat → Nat → Int32) : q_sem (d + 1) mX2_sound 57 [.ref w, .int x1, .int x2, .int x3, .int x4] [] (q_K o g) = (q_sem d mX7_get 0 [.ref (w + 9), .int x1, .int x3] [] (q_K o g)).bind (fun r => q_sem (d + 1) mX2_sound 72 [.ref w, .int x1, .int x2, .int x3, .int x4] (r.1.toList ++ [.int x3, .int x1, .ref (w + 9)]) r.2) := by
  refine (q_blk (Y := mX2_sound) (q_dcC dX2_sound_57 q_dcN) (show _ = some (58, [.ref w, .int x1, .int x2, .int x3, .int x4], [.ref w]) from rfl)).trans ?_
  refine (k_getr (Y := mX2_sound) dX2_sound_58 rfl rfl (W_is0 hw) (by decide) (W_r0_4 hw)).trans ?_
  refine (q_blk (Y := mX2_sound) (q_dcC dX2_sound_61 (q_dcC dX2_sound_62 (q_dcC dX2_sound_63 q_dcN))) (show _ = some (64, [.ref w, .int x1, .int x2, .int x3, .int x4], [.ref w, .int x3, .int x1, .ref (w + 9)]) from rfl)).trans ?_
  refine (k_getr (Y := mX2_sound) dX2_sound_64 rfl rfl (W_is0 hw) (by decide) (W_r0_4 hw)).trans ?_
  refine (q_blk (Y := mX2_sound) (q_dcC dX2_sound_67 (q_dcC dX2_sound_68 q_dcN)) (show _ = some (69, [.ref w, .int x1, .int x2, .int x3, .int x4], [.int x3, .int x1, .ref (w + 9), .int x3, .int x1, .ref (w + 9)]) from rfl)).trans ?_
  exact K_calV (d := d) (Y := mX2_sound) (Z := mX7_get) (vs := [.int x1, .int x3]) (rest := [.int x3, .int x1, .ref (w + 9)]) (la := [.ref (w + 9), .int x1, .int x3]) dX2_sound_69 rfl rfl rfl rfl (W_is9 hw) (Nat.le_of_ble_eq_true rfl) rfl (Nat.le_of_ble_eq_true rfl)
theorem B_X2_sound_37 {o : q_H} {w : Nat} (hw : q_W w) (d : Nat) (x1 x2 x3 y0 : Int32) (g : Nat → Nat → Int32) : q_sem (d + 1) mX2_sound 37 [.ref w, .int x1, .int x2, .int x3, .retAddr 0] [.int y0] (q_K o g) = (if x2 = 0 then (q_sem d mX7_write 0 [.ref (w + 9), .int x1, .int 1, .int 0] [] (q_K o g)).bind (fun r => q_sem (d + 1) mX2_sound 57 [.ref w, .int x1, .int x2, .int x3, .int y0] (r.1.toList ++ []) r.2) else (q_sem d mX7_write 0 [.ref (w + 9), .int x1, .int 1, .int 1] [] (q_K o g)).bind (fun r => q_sem (d + 1) mX2_sound 57 [.ref w, .int x1, .int x2, .int x3, .int y0] (r.1.toList ++ []) r.2)) := by
  refine (q_blk (Y := mX2_sound) (q_dcC dX2_sound_37 (q_dcC dX2_sound_39 q_dcN)) (show _ = some (40, [.ref w, .int x1, .int x2, .int x3, .int y0], [.ref w]) from rfl)).trans ?_
  refine (k_getr (Y := mX2_sound) dX2_sound_40 rfl rfl (W_is0 hw) (by decide) (W_r0_4 hw)).trans ?_
  refine (q_blk (Y := mX2_sound) (q_dcC dX2_sound_43 (q_dcC dX2_sound_44 (q_dcC dX2_sound_45 (q_dcC dX2_sound_46 q_dcN)))) (show _ = some ((if q_cc .eq x2 0 = true then 53 else 49), [.ref w, .int x1, .int x2, .int x3, .int y0], [.int 1, .int x1, .ref (w + 9)]) from rfl)).trans ?_
  by_cases c1 : x2 = 0
  · rw [if_pos (show q_cc .eq x2 0 = true from decide_eq_true c1)]
    refine Eq.trans ?_ (if_pos c1).symm
    refine (q_blk (Y := mX2_sound) (q_dcC dX2_sound_53 q_dcN) (show _ = some (54, [.ref w, .int x1, .int x2, .int x3, .int y0], [.int 0, .int 1, .int x1, .ref (w + 9)]) from rfl)).trans ?_
    exact K_calV (d := d) (Y := mX2_sound) (Z := mX7_write) (vs := [.int x1, .int 1, .int 0]) (rest := []) (la := [.ref (w + 9), .int x1, .int 1, .int 0]) dX2_sound_54 rfl rfl rfl rfl (W_is9 hw) (Nat.le_of_ble_eq_true rfl) rfl (Nat.le_of_ble_eq_true rfl)
  · rw [if_neg (show ¬ q_cc .eq x2 0 = true from fun z => c1 (of_decide_eq_true z))]
    refine Eq.trans ?_ (if_neg c1).symm
    refine (q_blk (Y := mX2_sound) (q_dcC dX2_sound_49 (q_dcC dX2_sound_50 q_dcN)) (show _ = some (54, [.ref w, .int x1, .int x2, .int x3, .int y0], [.int 1, .int 1, .int x1, .ref (w + 9)]) from rfl)).trans ?_
    exact K_calV (d := d) (Y := mX2_sound) (Z := mX7_write) (vs := [.int x1, .int 1, .int 1]) (rest := []) (la := [.ref (w + 9), .int x1, .int 1, .int 1]) dX2_sound_54 rfl rfl rfl rfl (W_is9 hw) (Nat.le_of_ble_eq_true rfl) rfl (Nat.le_of_ble_eq_true rfl)
theorem B_X2_sound_72 {o : q_H} {w : Nat} (hw : q_W w) (d : Nat) (x1 x2 x3 x4 y0 y1 y2 : Int32) (g : Nat → Nat → Int32) : q_sem (d + 1) mX2_sound 72 [.ref w, .int x1, .int x2, .int x3, .int x4] [.int y0, .int y1, .int y2, .ref (w + 9)] (q_K o g) = (q_sem d mX7_write 0 [.ref (w + 9), .int y2, .int y1, .int (y0 + x4)] [] (q_K o g)).bind (fun r => q_sem (d + 1) mX2_sound 78 [.ref w, .int x1, .int x2, .int x3, .int x4] (r.1.toList ++ []) r.2) := by
  refine (q_blk (Y := mX2_sound) (q_dcC dX2_sound_72 (q_dcC dX2_sound_74 q_dcN)) (show _ = some (75, [.ref w, .int x1, .int x2, .int x3, .int x4], [.int (y0 + x4), .int y1, .int y2, .ref (w + 9)]) from rfl)).trans ?_
  exact K_calV (d := d) (Y := mX2_sound) (Z := mX7_write) (vs := [.int y2, .int y1, .int (y0 + x4)]) (rest := []) (la := [.ref (w + 9), .int y2, .int y1, .int (y0 + x4)]) dX2_sound_75 rfl rfl rfl rfl (W_is9 hw) (Nat.le_of_ble_eq_true rfl) rfl (Nat.le_of_ble_eq_true rfl)
theorem B_X2_sound_78 {o : q_H} {w : Nat} (hw : q_W w) (d : Nat) (x1 x2 x3 x4 : Int32) (g : Nat → Nat → Int32) : q_sem (d) mX2_sound 78 [.ref w, .int x1, .int x2, .int x3, .int x4] [] (q_K o g) = some (none, q_K o g) := by
  exact k_vret (Y := mX2_sound) dX2_sound_78 rfl
theorem B_X2_hits_0 {o : q_H} {w : Nat} (hw : q_W w) (d : Nat) (x1 : Int32) (g : Nat → Nat → Int32) : q_sem (d) mX2_hits 0 [.ref w, .int x1, .retAddr 0, .retAddr 0] [] (q_K o g) = q_sem (d) mX2_hits 4 [.ref w, .int x1, .int 0, .int 0] [] (q_K o g) := by
  refine (q_blk (Y := mX2_hits) (q_dcC dX2_hits_0 (q_dcC dX2_hits_1 (q_dcC dX2_hits_2 (q_dcC dX2_hits_3 q_dcN)))) (show _ = some (4, [.ref w, .int x1, .int 0, .int 0], []) from rfl)).trans ?_
  rfl
theorem B_X2_hits_4 {o : q_H} {w : Nat} (hw : q_W w) (d : Nat) (x1 x2 x3 : Int32) (g : Nat → Nat → Int32) : q_sem (d + 1) mX2_hits 4 [.ref w, .int x1, .int x2, .int x3] [] (q_K o g) = (q_sem d mX7_size 0 [.ref (w + 11)] [] (q_K o g)).bind (fun r => q_sem (d + 1) mX2_hits 12 [.ref w, .int x1, .int x2, .int x3] (r.1.toList ++ [.int x3]) r.2) := by
  refine (q_blk (Y := mX2_hits) (q_dcC dX2_hits_4 (q_dcC dX2_hits_5 q_dcN)) (show _ = some (6, [.ref w, .int x1, .int x2, .int x3], [.ref w, .int x3]) from rfl)).trans ?_
  refine (k_getr (Y := mX2_hits) dX2_hits_6 rfl rfl (W_is0 hw) (by decide) (W_r0_5 hw)).trans ?_
  exact K_calV (d := d) (Y := mX2_hits) (Z := mX7_size) (vs := []) (rest := [.int x3]) (la := [.ref (w + 11)]) dX2_hits_9 rfl rfl rfl rfl (W_is11 hw) (Nat.le_of_ble_eq_true rfl) rfl (Nat.le_of_ble_eq_true rfl)
theorem B_X2_hits_12 {o : q_H} {w : Nat} (hw : q_W w) (d : Nat) (x1 x2 x3 y0 y1 : Int32) (g : Nat → Nat → Int32) : q_sem (d + 1) mX2_hits 12 [.ref w, .int x1, .int x2, .int x3] [.int y0, .int y1] (q_K o g) = (if y0 ≤ y1 then some (some (.int x2), q_K o g) else (q_sem d mX10_isA 0 [.ref w, .int x3, .int 1, .retAddr 0, .retAddr 0] [] (q_K o g)).bind (fun r => q_sem (d + 1) mX2_hits 21 [.ref w, .int x1, .int x2, .int x3] (r.1.toList ++ []) r.2)) := by
  refine (q_blk (Y := mX2_hits) (q_dcC dX2_hits_12 q_dcN) (show _ = some ((if q_cc .ge y1 y0 = true then 77 else 15), [.ref w, .int x1, .int x2, .int x3], []) from rfl)).trans ?_
  by_cases c1 : y0 ≤ y1
  · rw [if_pos (show q_cc .ge y1 y0 = true from decide_eq_true c1)]
    refine Eq.trans ?_ (if_pos c1).symm
    refine (q_blk (Y := mX2_hits) (q_dcC dX2_hits_77 q_dcN) (show _ = some (78, [.ref w, .int x1, .int x2, .int x3], [.int x2]) from rfl)).trans ?_
    exact k_iret (Y := mX2_hits) dX2_hits_78 rfl
  · rw [if_neg (show ¬ q_cc .ge y1 y0 = true from fun z => c1 (of_decide_eq_true z))]
    refine Eq.trans ?_ (if_neg c1).symm
    refine (q_blk (Y := mX2_hits) (q_dcC dX2_hits_15 (q_dcC dX2_hits_16 (q_dcC dX2_hits_17 q_dcN))) (show _ = some (18, [.ref w, .int x1, .int x2, .int x3], [.int 1, .int x3, .ref w]) from rfl)).trans ?_
    exact K_calV (d := d) (Y := mX2_hits) (Z := mX10_isA) (vs := [.int x3, .int 1]) (rest := []) (la := [.ref w, .int x3, .int 1, .retAddr 0, .retAddr 0]) dX2_hits_18 rfl rfl rfl rfl (W_is0 hw) (Nat.le_of_ble_eq_true rfl) rfl (Nat.le_of_ble_eq_true rfl)
theorem B_X2_hits_21 {o : q_H} {w : Nat} (hw : q_W w) (d : Nat) (x1 x2 x3 y0 : Int32) (g : Nat → Nat → Int32) : q_sem (d + 1) mX2_hits 21 [.ref w, .int x1, .int x2, .int x3] [.int y0] (q_K o g) = (if y0 = 0 then q_sem (d + 1) mX2_hits 4 [.ref w, .int x1, .int x2, .int (x3 + 1)] [] (q_K o g) else (q_sem d mX10_stands 0 [.ref w, .int x3, .int 0] [] (q_K o g)).bind (fun r => q_sem (d + 1) mX2_hits 30 [.ref w, .int x1, .int x2, .int x3] (r.1.toList ++ []) r.2)) := by
  refine (q_blk (Y := mX2_hits) (q_dcC dX2_hits_21 q_dcN) (show _ = some ((if q_cc .eq y0 0 = true then 71 else 24), [.ref w, .int x1, .int x2, .int x3], []) from rfl)).trans ?_
  by_cases c1 : y0 = 0
  · rw [if_pos (show q_cc .eq y0 0 = true from decide_eq_true c1)]
    refine Eq.trans ?_ (if_pos c1).symm
    refine (q_blk (Y := mX2_hits) (q_dcC dX2_hits_71 (q_dcC dX2_hits_74 q_dcN)) (show _ = some (4, [.ref w, .int x1, .int x2, .int (x3 + 1)], []) from rfl)).trans ?_
    rfl
  · rw [if_neg (show ¬ q_cc .eq y0 0 = true from fun z => c1 (of_decide_eq_true z))]
    refine Eq.trans ?_ (if_neg c1).symm
    refine (q_blk (Y := mX2_hits) (q_dcC dX2_hits_24 (q_dcC dX2_hits_25 (q_dcC dX2_hits_26 q_dcN))) (show _ = some (27, [.ref w, .int x1, .int x2, .int x3], [.int 0, .int x3, .ref w]) from rfl)).trans ?_
    exact K_calV (d := d) (Y := mX2_hits) (Z := mX10_stands) (vs := [.int x3, .int 0]) (rest := []) (la := [.ref w, .int x3, .int 0]) dX2_hits_27 rfl rfl rfl rfl (W_is0 hw) (Nat.le_of_ble_eq_true rfl) rfl (Nat.le_of_ble_eq_true rfl)
theorem B_X2_hits_30 {o : q_H} {w : Nat} (hw : q_W w) (d : Nat) (x1 x2 x3 y0 : Int32) (g : Nat → Nat → Int32) : q_sem (d + 1) mX2_hits 30 [.ref w, .int x1, .int x2, .int x3] [.int y0] (q_K o g) = (if y0 = 0 then q_sem (d + 1) mX2_hits 4 [.ref w, .int x1, .int x2, .int (x3 + 1)] [] (q_K o g) else (q_sem d mX7_get 0 [.ref (w + 11), .int x3, .int 1] [] (q_K o g)).bind (fun r => q_sem (d + 1) mX2_hits 42 [.ref w, .int x1, .int x2, .int x3] (r.1.toList ++ []) r.2)) := by
  refine (q_blk (Y := mX2_hits) (q_dcC dX2_hits_30 q_dcN) (show _ = some ((if q_cc .eq y0 0 = true then 71 else 33), [.ref w, .int x1, .int x2, .int x3], []) from rfl)).trans ?_
  by_cases c1 : y0 = 0
  · rw [if_pos (show q_cc .eq y0 0 = true from decide_eq_true c1)]
    refine Eq.trans ?_ (if_pos c1).symm
    refine (q_blk (Y := mX2_hits) (q_dcC dX2_hits_71 (q_dcC dX2_hits_74 q_dcN)) (show _ = some (4, [.ref w, .int x1, .int x2, .int (x3 + 1)], []) from rfl)).trans ?_
    rfl
  · rw [if_neg (show ¬ q_cc .eq y0 0 = true from fun z => c1 (of_decide_eq_true z))]
    refine Eq.trans ?_ (if_neg c1).symm
    refine (q_blk (Y := mX2_hits) (q_dcC dX2_hits_33 q_dcN) (show _ = some (34, [.ref w, .int x1, .int x2, .int x3], [.ref w]) from rfl)).trans ?_
    refine (k_getr (Y := mX2_hits) dX2_hits_34 rfl rfl (W_is0 hw) (by decide) (W_r0_5 hw)).trans ?_
    refine (q_blk (Y := mX2_hits) (q_dcC dX2_hits_37 (q_dcC dX2_hits_38 q_dcN)) (show _ = some (39, [.ref w, .int x1, .int x2, .int x3], [.int 1, .int x3, .ref (w + 11)]) from rfl)).trans ?_
    exact K_calV (d := d) (Y := mX2_hits) (Z := mX7_get) (vs := [.int x3, .int 1]) (rest := []) (la := [.ref (w + 11), .int x3, .int 1]) dX2_hits_39 rfl rfl rfl rfl (W_is11 hw) (Nat.le_of_ble_eq_true rfl) rfl (Nat.le_of_ble_eq_true rfl)
theorem B_X2_hits_42 {o : q_H} {w : Nat} (hw : q_W w) (d : Nat) (x1 x2 x3 y0 : Int32) (g : Nat → Nat → Int32) : q_sem (d + 1) mX2_hits 42 [.ref w, .int x1, .int x2, .int x3] [.int y0] (q_K o g) = (if y0 = x1 then (q_sem d mX10_isA 0 [.ref w, .int x3, .int 2, .retAddr 0, .retAddr 0] [] (q_K o g)).bind (fun r => q_sem (d + 1) mX2_hits 53 [.ref w, .int x1, .int x2, .int x3] (r.1.toList ++ [.int x2]) r.2) else q_sem (d + 1) mX2_hits 4 [.ref w, .int x1, .int x2, .int (x3 + 1)] [] (q_K o g)) := by
  refine (q_blk (Y := mX2_hits) (q_dcC dX2_hits_42 (q_dcC dX2_hits_43 q_dcN)) (show _ = some ((if q_cc .ne y0 x1 = true then 71 else 46), [.ref w, .int x1, .int x2, .int x3], []) from rfl)).trans ?_
  by_cases c1 : y0 = x1
  · rw [if_neg (show ¬ q_cc .ne y0 x1 = true from fun z => (of_decide_eq_true z : ¬ y0 = x1) c1)]
    refine Eq.trans ?_ (if_pos c1).symm
    refine (q_blk (Y := mX2_hits) (q_dcC dX2_hits_46 (q_dcC dX2_hits_47 (q_dcC dX2_hits_48 (q_dcC dX2_hits_49 q_dcN)))) (show _ = some (50, [.ref w, .int x1, .int x2, .int x3], [.int 2, .int x3, .ref w, .int x2]) from rfl)).trans ?_
    exact K_calV (d := d) (Y := mX2_hits) (Z := mX10_isA) (vs := [.int x3, .int 2]) (rest := [.int x2]) (la := [.ref w, .int x3, .int 2, .retAddr 0, .retAddr 0]) dX2_hits_50 rfl rfl rfl rfl (W_is0 hw) (Nat.le_of_ble_eq_true rfl) rfl (Nat.le_of_ble_eq_true rfl)
  · rw [if_pos (show q_cc .ne y0 x1 = true from decide_eq_true c1)]
    refine Eq.trans ?_ (if_neg c1).symm
    refine (q_blk (Y := mX2_hits) (q_dcC dX2_hits_71 (q_dcC dX2_hits_74 q_dcN)) (show _ = some (4, [.ref w, .int x1, .int x2, .int (x3 + 1)], []) from rfl)).trans ?_
    rfl
theorem B_X2_hits_53 {o : q_H} {w : Nat} (hw : q_W w) (d : Nat) (x1 x2 x3 y0 y1 : Int32) (g : Nat → Nat → Int32) : q_sem (d + 1) mX2_hits 53 [.ref w, .int x1, .int x2, .int x3] [.int y0, .int y1] (q_K o g) = (if y0 = 0 then (q_sem d mX7_get 0 [.ref (w + 11), .int x3, .int 5] [] (q_K o g)).bind (fun r => q_sem (d + 1) mX2_hits 69 [.ref w, .int x1, .int x2, .int x3] (r.1.toList ++ [.int y1]) r.2) else q_sem (d + 1) mX2_hits 4 [.ref w, .int x1, .int (y1 + 1), .int (x3 + 1)] [] (q_K o g)) := by
  refine (q_blk (Y := mX2_hits) (q_dcC dX2_hits_53 q_dcN) (show _ = some ((if q_cc .eq y0 0 = true then 60 else 56), [.ref w, .int x1, .int x2, .int x3], [.int y1]) from rfl)).trans ?_
  by_cases c1 : y0 = 0
  · rw [if_pos (show q_cc .eq y0 0 = true from decide_eq_true c1)]
    refine Eq.trans ?_ (if_pos c1).symm
    refine (q_blk (Y := mX2_hits) (q_dcC dX2_hits_60 q_dcN) (show _ = some (61, [.ref w, .int x1, .int x2, .int x3], [.ref w, .int y1]) from rfl)).trans ?_
    refine (k_getr (Y := mX2_hits) dX2_hits_61 rfl rfl (W_is0 hw) (by decide) (W_r0_5 hw)).trans ?_
    refine (q_blk (Y := mX2_hits) (q_dcC dX2_hits_64 (q_dcC dX2_hits_65 q_dcN)) (show _ = some (66, [.ref w, .int x1, .int x2, .int x3], [.int 5, .int x3, .ref (w + 11), .int y1]) from rfl)).trans ?_
    exact K_calV (d := d) (Y := mX2_hits) (Z := mX7_get) (vs := [.int x3, .int 5]) (rest := [.int y1]) (la := [.ref (w + 11), .int x3, .int 5]) dX2_hits_66 rfl rfl rfl rfl (W_is11 hw) (Nat.le_of_ble_eq_true rfl) rfl (Nat.le_of_ble_eq_true rfl)
  · rw [if_neg (show ¬ q_cc .eq y0 0 = true from fun z => c1 (of_decide_eq_true z))]
    refine Eq.trans ?_ (if_neg c1).symm
    refine (q_blk (Y := mX2_hits) (q_dcC dX2_hits_56 (q_dcC dX2_hits_57 q_dcN)) (show _ = some (69, [.ref w, .int x1, .int x2, .int x3], [.int 1, .int y1]) from rfl)).trans ?_
    refine (q_blk (Y := mX2_hits) (q_dcC dX2_hits_69 (q_dcC dX2_hits_70 (q_dcC dX2_hits_71 (q_dcC dX2_hits_74 q_dcN)))) (show _ = some (4, [.ref w, .int x1, .int (y1 + 1), .int (x3 + 1)], []) from rfl)).trans ?_
    rfl
theorem B_X2_hits_69 {o : q_H} {w : Nat} (hw : q_W w) (d : Nat) (x1 x2 x3 y0 y1 : Int32) (g : Nat → Nat → Int32) : q_sem (d) mX2_hits 69 [.ref w, .int x1, .int x2, .int x3] [.int y0, .int y1] (q_K o g) = q_sem (d) mX2_hits 4 [.ref w, .int x1, .int (y1 + y0), .int (x3 + 1)] [] (q_K o g) := by
  refine (q_blk (Y := mX2_hits) (q_dcC dX2_hits_69 (q_dcC dX2_hits_70 (q_dcC dX2_hits_71 (q_dcC dX2_hits_74 q_dcN)))) (show _ = some (4, [.ref w, .int x1, .int (y1 + y0), .int (x3 + 1)], []) from rfl)).trans ?_
  rfl
theorem B_X5_copyFrom_0 {o : q_H} {w : Nat} (hw : q_W w) {u : Nat} (hu : q_W u) (d : Nat) (g : Nat → Nat → Int32) : q_sem (d + 1) mX5_copyFrom 0 [.ref (w + 15), .ref (u + 15)] [] (q_K o g) = (q_sem d mX7_copyFrom 0 [.ref (w + 16), .ref (u + 16)] [] (q_K o g)).bind (fun r => q_sem (d + 1) mX5_copyFrom 11 [.ref (w + 15), .ref (u + 15)] (r.1.toList ++ []) r.2) := by
  refine (q_blk (Y := mX5_copyFrom) (q_dcC dX5_copyFrom_0 q_dcN) (show _ = some (1, [.ref (w + 15), .ref (u + 15)], [.ref (w + 15)]) from rfl)).trans ?_
  refine (k_getr (Y := mX5_copyFrom) dX5_copyFrom_1 rfl rfl (W_is15 hw) (by decide) (W_r15_0 hw)).trans ?_
  refine (q_blk (Y := mX5_copyFrom) (q_dcC dX5_copyFrom_4 q_dcN) (show _ = some (5, [.ref (w + 15), .ref (u + 15)], [.ref (u + 15), .ref (w + 16)]) from rfl)).trans ?_
  refine (k_getr (Y := mX5_copyFrom) dX5_copyFrom_5 rfl rfl (W_is15 hu) (by decide) (W_r15_0 hu)).trans ?_
  exact K_calV (d := d) (Y := mX5_copyFrom) (Z := mX7_copyFrom) (vs := [.ref (u + 16)]) (rest := []) (la := [.ref (w + 16), .ref (u + 16)]) dX5_copyFrom_8 rfl rfl rfl rfl (W_is16 hw) (Nat.le_of_ble_eq_true rfl) rfl (Nat.le_of_ble_eq_true rfl)
theorem B_X5_copyFrom_11 {o : q_H} {w : Nat} (hw : q_W w) {u : Nat} (hu : q_W u) (d : Nat) (g : Nat → Nat → Int32) : q_sem (d + 1) mX5_copyFrom 11 [.ref (w + 15), .ref (u + 15)] [] (q_K o g) = (q_sem d mX7_copyFrom 0 [.ref (w + 18), .ref (u + 18)] [] (q_K o g)).bind (fun r => q_sem (d + 1) mX5_copyFrom 22 [.ref (w + 15), .ref (u + 15)] (r.1.toList ++ []) r.2) := by
  refine (q_blk (Y := mX5_copyFrom) (q_dcC dX5_copyFrom_11 q_dcN) (show _ = some (12, [.ref (w + 15), .ref (u + 15)], [.ref (w + 15)]) from rfl)).trans ?_
  refine (k_getr (Y := mX5_copyFrom) dX5_copyFrom_12 rfl rfl (W_is15 hw) (by decide) (W_r15_1 hw)).trans ?_
  refine (q_blk (Y := mX5_copyFrom) (q_dcC dX5_copyFrom_15 q_dcN) (show _ = some (16, [.ref (w + 15), .ref (u + 15)], [.ref (u + 15), .ref (w + 18)]) from rfl)).trans ?_
  refine (k_getr (Y := mX5_copyFrom) dX5_copyFrom_16 rfl rfl (W_is15 hu) (by decide) (W_r15_1 hu)).trans ?_
  exact K_calV (d := d) (Y := mX5_copyFrom) (Z := mX7_copyFrom) (vs := [.ref (u + 18)]) (rest := []) (la := [.ref (w + 18), .ref (u + 18)]) dX5_copyFrom_19 rfl rfl rfl rfl (W_is18 hw) (Nat.le_of_ble_eq_true rfl) rfl (Nat.le_of_ble_eq_true rfl)
theorem B_X5_copyFrom_22 {o : q_H} {w : Nat} (hw : q_W w) {u : Nat} (hu : q_W u) (d : Nat) (g : Nat → Nat → Int32) : q_sem (d) mX5_copyFrom 22 [.ref (w + 15), .ref (u + 15)] [] (q_K o g) = some (none, q_K o g) := by
  exact k_vret (Y := mX5_copyFrom) dX5_copyFrom_22 rfl
theorem B_X5_make_0 {o : q_H} {w : Nat} (hw : q_W w) (d : Nat) (x1 x2 : Int32) (g : Nat → Nat → Int32) : q_sem (d + 1) mX5_make 0 [.ref (w + 15), .int x1, .int x2, .ref 67, .retAddr 0, .retAddr 0] [] (q_K o g) = (q_sem d mX7_add 0 [.ref (w + 16), .int x1, .retAddr 0] [] (q_K o g)).bind (fun r => q_sem (d + 1) mX5_make 8 [.ref (w + 15), .int x1, .int x2, .ref 67, .retAddr 0, .retAddr 0] (r.1.toList ++ []) r.2) := by
  refine (q_blk (Y := mX5_make) (q_dcC dX5_make_0 q_dcN) (show _ = some (1, [.ref (w + 15), .int x1, .int x2, .ref 67, .retAddr 0, .retAddr 0], [.ref (w + 15)]) from rfl)).trans ?_
  refine (k_getr (Y := mX5_make) dX5_make_1 rfl rfl (W_is15 hw) (by decide) (W_r15_0 hw)).trans ?_
  refine (q_blk (Y := mX5_make) (q_dcC dX5_make_4 q_dcN) (show _ = some (5, [.ref (w + 15), .int x1, .int x2, .ref 67, .retAddr 0, .retAddr 0], [.int x1, .ref (w + 16)]) from rfl)).trans ?_
  exact K_calV (d := d) (Y := mX5_make) (Z := mX7_add) (vs := [.int x1]) (rest := []) (la := [.ref (w + 16), .int x1, .retAddr 0]) dX5_make_5 rfl rfl rfl rfl (W_is16 hw) (Nat.le_of_ble_eq_true rfl) rfl (Nat.le_of_ble_eq_true rfl)
theorem B_X5_make_8 {o : q_H} {w : Nat} (hw : q_W w) (d : Nat) (x1 x2 y0 : Int32) (g : Nat → Nat → Int32) : q_sem (d + 1) mX5_make 8 [.ref (w + 15), .int x1, .int x2, .ref 67, .retAddr 0, .retAddr 0] [.int y0] (q_K o g) = (q_sem d mX7_write 0 [.ref (w + 16), .int y0, .int 1, .int x2] [] (q_K o g)).bind (fun r => q_sem (d + 1) mX5_make 21 [.ref (w + 15), .int x1, .int x2, .ref 67, .int y0, .retAddr 0] (r.1.toList ++ []) r.2) := by
  refine (q_blk (Y := mX5_make) (q_dcC dX5_make_8 (q_dcC dX5_make_10 q_dcN)) (show _ = some (11, [.ref (w + 15), .int x1, .int x2, .ref 67, .int y0, .retAddr 0], [.ref (w + 15)]) from rfl)).trans ?_
  refine (k_getr (Y := mX5_make) dX5_make_11 rfl rfl (W_is15 hw) (by decide) (W_r15_0 hw)).trans ?_
  refine (q_blk (Y := mX5_make) (q_dcC dX5_make_14 (q_dcC dX5_make_16 (q_dcC dX5_make_17 q_dcN))) (show _ = some (18, [.ref (w + 15), .int x1, .int x2, .ref 67, .int y0, .retAddr 0], [.int x2, .int 1, .int y0, .ref (w + 16)]) from rfl)).trans ?_
  exact K_calV (d := d) (Y := mX5_make) (Z := mX7_write) (vs := [.int y0, .int 1, .int x2]) (rest := []) (la := [.ref (w + 16), .int y0, .int 1, .int x2]) dX5_make_18 rfl rfl rfl rfl (W_is16 hw) (Nat.le_of_ble_eq_true rfl) rfl (Nat.le_of_ble_eq_true rfl)
theorem B_X5_make_21 {o : q_H} {w : Nat} (hw : q_W w) (d : Nat) (x1 x2 x4 : Int32) (g : Nat → Nat → Int32) : q_sem (d + 1) mX5_make 21 [.ref (w + 15), .int x1, .int x2, .ref 67, .int x4, .retAddr 0] [] (q_K o g) = (q_sem d mX8_size 0 [.ref 67] [] (q_K o g)).bind (fun r => q_sem (d + 1) mX5_make 32 [.ref (w + 15), .int x1, .int x2, .ref 67, .int x4, .retAddr 0] (r.1.toList ++ [.int 2, .int x4, .ref (w + 16)]) r.2) := by
  refine (q_blk (Y := mX5_make) (q_dcC dX5_make_21 q_dcN) (show _ = some (22, [.ref (w + 15), .int x1, .int x2, .ref 67, .int x4, .retAddr 0], [.ref (w + 15)]) from rfl)).trans ?_
  refine (k_getr (Y := mX5_make) dX5_make_22 rfl rfl (W_is15 hw) (by decide) (W_r15_0 hw)).trans ?_
  refine (q_blk (Y := mX5_make) (q_dcC dX5_make_25 (q_dcC dX5_make_27 (q_dcC dX5_make_28 q_dcN))) (show _ = some (29, [.ref (w + 15), .int x1, .int x2, .ref 67, .int x4, .retAddr 0], [.ref 67, .int 2, .int x4, .ref (w + 16)]) from rfl)).trans ?_
  exact K_calV (d := d) (Y := mX5_make) (Z := mX8_size) (vs := []) (rest := [.int 2, .int x4, .ref (w + 16)]) (la := [.ref 67]) dX5_make_29 rfl rfl rfl rfl ⟨by decide, rfl⟩ (Nat.le_of_ble_eq_true rfl) rfl (Nat.le_of_ble_eq_true rfl)
theorem B_X5_make_32 {o : q_H} {w : Nat} (hw : q_W w) (d : Nat) (x1 x2 x4 y0 y1 y2 : Int32) (g : Nat → Nat → Int32) : q_sem (d + 1) mX5_make 32 [.ref (w + 15), .int x1, .int x2, .ref 67, .int x4, .retAddr 0] [.int y0, .int y1, .int y2, .ref (w + 16)] (q_K o g) = (q_sem d mX7_write 0 [.ref (w + 16), .int y2, .int y1, .int y0] [] (q_K o g)).bind (fun r => q_sem (d + 1) mX5_make 35 [.ref (w + 15), .int x1, .int x2, .ref 67, .int x4, .retAddr 0] (r.1.toList ++ []) r.2) := by
  exact K_calV (d := d) (Y := mX5_make) (Z := mX7_write) (vs := [.int y2, .int y1, .int y0]) (rest := []) (la := [.ref (w + 16), .int y2, .int y1, .int y0]) dX5_make_32 rfl rfl rfl rfl (W_is16 hw) (Nat.le_of_ble_eq_true rfl) rfl (Nat.le_of_ble_eq_true rfl)
theorem B_X5_make_35 {o : q_H} {w : Nat} (hw : q_W w) (d : Nat) (x1 x2 x4 : Int32) (g : Nat → Nat → Int32) : q_sem (d) mX5_make 35 [.ref (w + 15), .int x1, .int x2, .ref 67, .int x4, .retAddr 0] [] (q_K o g) = q_sem (d) mX5_make 38 [.ref (w + 15), .int x1, .int x2, .ref 67, .int x4, .int 0] [] (q_K o g) := by
  refine (q_blk (Y := mX5_make) (q_dcC dX5_make_35 (q_dcC dX5_make_36 q_dcN)) (show _ = some (38, [.ref (w + 15), .int x1, .int x2, .ref 67, .int x4, .int 0], []) from rfl)).trans ?_
  rfl
theorem B_X5_make_38 {o : q_H} {w : Nat} (hw : q_W w) (d : Nat) (x1 x2 x4 x5 : Int32) (g : Nat → Nat → Int32) : q_sem (d + 1) mX5_make 38 [.ref (w + 15), .int x1, .int x2, .ref 67, .int x4, .int x5] [] (q_K o g) = (q_sem d mX8_size 0 [.ref 67] [] (q_K o g)).bind (fun r => q_sem (d + 1) mX5_make 44 [.ref (w + 15), .int x1, .int x2, .ref 67, .int x4, .int x5] (r.1.toList ++ [.int x5]) r.2) := by
  refine (q_blk (Y := mX5_make) (q_dcC dX5_make_38 (q_dcC dX5_make_40 q_dcN)) (show _ = some (41, [.ref (w + 15), .int x1, .int x2, .ref 67, .int x4, .int x5], [.ref 67, .int x5]) from rfl)).trans ?_
  exact K_calV (d := d) (Y := mX5_make) (Z := mX8_size) (vs := []) (rest := [.int x5]) (la := [.ref 67]) dX5_make_41 rfl rfl rfl rfl ⟨by decide, rfl⟩ (Nat.le_of_ble_eq_true rfl) rfl (Nat.le_of_ble_eq_true rfl)
theorem B_X5_make_44 {o : q_H} {w : Nat} (hw : q_W w) (d : Nat) (x1 x2 x4 x5 y0 y1 : Int32) (g : Nat → Nat → Int32) : q_sem (d + 1) mX5_make 44 [.ref (w + 15), .int x1, .int x2, .ref 67, .int x4, .int x5] [.int y0, .int y1] (q_K o g) = (if y0 ≤ y1 then some (some (.int x4), q_K o g) else (q_sem d mX8_code 0 [.ref 67, .int x5] [] (q_K o g)).bind (fun r => q_sem (d + 1) mX5_make 63 [.ref (w + 15), .int x1, .int x2, .ref 67, .int x4, .int x5] (r.1.toList ++ [.int (3 + x5), .int x4, .ref (w + 16)]) r.2)) := by
  refine (q_blk (Y := mX5_make) (q_dcC dX5_make_44 q_dcN) (show _ = some ((if q_cc .ge y1 y0 = true then 72 else 47), [.ref (w + 15), .int x1, .int x2, .ref 67, .int x4, .int x5], []) from rfl)).trans ?_
  by_cases c1 : y0 ≤ y1
  · rw [if_pos (show q_cc .ge y1 y0 = true from decide_eq_true c1)]
    refine Eq.trans ?_ (if_pos c1).symm
    refine (q_blk (Y := mX5_make) (q_dcC dX5_make_72 q_dcN) (show _ = some (74, [.ref (w + 15), .int x1, .int x2, .ref 67, .int x4, .int x5], [.int x4]) from rfl)).trans ?_
    exact k_iret (Y := mX5_make) dX5_make_74 rfl
  · rw [if_neg (show ¬ q_cc .ge y1 y0 = true from fun z => c1 (of_decide_eq_true z))]
    refine Eq.trans ?_ (if_neg c1).symm
    refine (q_blk (Y := mX5_make) (q_dcC dX5_make_47 q_dcN) (show _ = some (48, [.ref (w + 15), .int x1, .int x2, .ref 67, .int x4, .int x5], [.ref (w + 15)]) from rfl)).trans ?_
    refine (k_getr (Y := mX5_make) dX5_make_48 rfl rfl (W_is15 hw) (by decide) (W_r15_0 hw)).trans ?_
    refine (q_blk (Y := mX5_make) (q_dcC dX5_make_51 (q_dcC dX5_make_53 (q_dcC dX5_make_54 (q_dcC dX5_make_56 (q_dcC dX5_make_57 (q_dcC dX5_make_58 q_dcN)))))) (show _ = some (60, [.ref (w + 15), .int x1, .int x2, .ref 67, .int x4, .int x5], [.int x5, .ref 67, .int (3 + x5), .int x4, .ref (w + 16)]) from rfl)).trans ?_
    exact K_calV (d := d) (Y := mX5_make) (Z := mX8_code) (vs := [.int x5]) (rest := [.int (3 + x5), .int x4, .ref (w + 16)]) (la := [.ref 67, .int x5]) dX5_make_60 rfl rfl rfl rfl ⟨by decide, rfl⟩ (Nat.le_of_ble_eq_true rfl) rfl (Nat.le_of_ble_eq_true rfl)
theorem B_X5_make_63 {o : q_H} {w : Nat} (hw : q_W w) (d : Nat) (x1 x2 x4 x5 y0 y1 y2 : Int32) (g : Nat → Nat → Int32) : q_sem (d + 1) mX5_make 63 [.ref (w + 15), .int x1, .int x2, .ref 67, .int x4, .int x5] [.int y0, .int y1, .int y2, .ref (w + 16)] (q_K o g) = (q_sem d mX7_write 0 [.ref (w + 16), .int y2, .int y1, .int y0] [] (q_K o g)).bind (fun r => q_sem (d + 1) mX5_make 66 [.ref (w + 15), .int x1, .int x2, .ref 67, .int x4, .int x5] (r.1.toList ++ []) r.2) := by
  exact K_calV (d := d) (Y := mX5_make) (Z := mX7_write) (vs := [.int y2, .int y1, .int y0]) (rest := []) (la := [.ref (w + 16), .int y2, .int y1, .int y0]) dX5_make_63 rfl rfl rfl rfl (W_is16 hw) (Nat.le_of_ble_eq_true rfl) rfl (Nat.le_of_ble_eq_true rfl)
theorem B_X5_make_66 {o : q_H} {w : Nat} (hw : q_W w) (d : Nat) (x1 x2 x4 x5 : Int32) (g : Nat → Nat → Int32) : q_sem (d) mX5_make 66 [.ref (w + 15), .int x1, .int x2, .ref 67, .int x4, .int x5] [] (q_K o g) = q_sem (d) mX5_make 38 [.ref (w + 15), .int x1, .int x2, .ref 67, .int x4, .int (x5 + 1)] [] (q_K o g) := by
  refine (q_blk (Y := mX5_make) (q_dcC dX5_make_66 (q_dcC dX5_make_69 q_dcN)) (show _ = some (38, [.ref (w + 15), .int x1, .int x2, .ref 67, .int x4, .int (x5 + 1)], []) from rfl)).trans ?_
  rfl
theorem B_X5_inForce_0 {o : q_H} {w : Nat} (hw : q_W w) (d : Nat) (x1 x2 : Int32) (g : Nat → Nat → Int32) : q_sem (d + 1) mX5_inForce 0 [.ref (w + 15), .int x1, .int x2, .retAddr 0] [] (q_K o g) = (q_sem d mX7_size 0 [.ref (w + 16)] [] (q_K o g)).bind (fun r => q_sem (d + 1) mX5_inForce 7 [.ref (w + 15), .int x1, .int x2, .retAddr 0] (r.1.toList ++ []) r.2) := by
  refine (q_blk (Y := mX5_inForce) (q_dcC dX5_inForce_0 q_dcN) (show _ = some (1, [.ref (w + 15), .int x1, .int x2, .retAddr 0], [.ref (w + 15)]) from rfl)).trans ?_
  refine (k_getr (Y := mX5_inForce) dX5_inForce_1 rfl rfl (W_is15 hw) (by decide) (W_r15_0 hw)).trans ?_
  exact K_calV (d := d) (Y := mX5_inForce) (Z := mX7_size) (vs := []) (rest := []) (la := [.ref (w + 16)]) dX5_inForce_4 rfl rfl rfl rfl (W_is16 hw) (Nat.le_of_ble_eq_true rfl) rfl (Nat.le_of_ble_eq_true rfl)
theorem B_X5_inForce_7 {o : q_H} {w : Nat} (hw : q_W w) (d : Nat) (x1 x2 y0 : Int32) (g : Nat → Nat → Int32) : q_sem (d) mX5_inForce 7 [.ref (w + 15), .int x1, .int x2, .retAddr 0] [.int y0] (q_K o g) = q_sem (d) mX5_inForce 10 [.ref (w + 15), .int x1, .int x2, .int (y0 - 1)] [] (q_K o g) := by
  refine (q_blk (Y := mX5_inForce) (q_dcC dX5_inForce_7 (q_dcC dX5_inForce_8 (q_dcC dX5_inForce_9 q_dcN))) (show _ = some (10, [.ref (w + 15), .int x1, .int x2, .int (y0 - 1)], []) from rfl)).trans ?_
  rfl
theorem B_X5_inForce_10 {o : q_H} {w : Nat} (hw : q_W w) (d : Nat) (x1 x2 x3 : Int32) (g : Nat → Nat → Int32) : q_sem (d + 1) mX5_inForce 10 [.ref (w + 15), .int x1, .int x2, .int x3] [] (q_K o g) = (if x3 < 0 then some (some (.int (-1)), q_K o g) else (q_sem d mX7_get 0 [.ref (w + 16), .int x3, .int 0] [] (q_K o g)).bind (fun r => q_sem (d + 1) mX5_inForce 23 [.ref (w + 15), .int x1, .int x2, .int x3] (r.1.toList ++ []) r.2)) := by
  refine (q_blk (Y := mX5_inForce) (q_dcC dX5_inForce_10 (q_dcC dX5_inForce_11 q_dcN)) (show _ = some ((if q_cc .lt x3 0 = true then 48 else 14), [.ref (w + 15), .int x1, .int x2, .int x3], []) from rfl)).trans ?_
  by_cases c1 : x3 < 0
  · rw [if_pos (show q_cc .lt x3 0 = true from decide_eq_true c1)]
    refine Eq.trans ?_ (if_pos c1).symm
    refine (q_blk (Y := mX5_inForce) (q_dcC dX5_inForce_48 q_dcN) (show _ = some (49, [.ref (w + 15), .int x1, .int x2, .int x3], [.int (-1)]) from rfl)).trans ?_
    exact k_iret (Y := mX5_inForce) dX5_inForce_49 rfl
  · rw [if_neg (show ¬ q_cc .lt x3 0 = true from fun z => c1 (of_decide_eq_true z))]
    refine Eq.trans ?_ (if_neg c1).symm
    refine (q_blk (Y := mX5_inForce) (q_dcC dX5_inForce_14 q_dcN) (show _ = some (15, [.ref (w + 15), .int x1, .int x2, .int x3], [.ref (w + 15)]) from rfl)).trans ?_
    refine (k_getr (Y := mX5_inForce) dX5_inForce_15 rfl rfl (W_is15 hw) (by decide) (W_r15_0 hw)).trans ?_
    refine (q_blk (Y := mX5_inForce) (q_dcC dX5_inForce_18 (q_dcC dX5_inForce_19 q_dcN)) (show _ = some (20, [.ref (w + 15), .int x1, .int x2, .int x3], [.int 0, .int x3, .ref (w + 16)]) from rfl)).trans ?_
    exact K_calV (d := d) (Y := mX5_inForce) (Z := mX7_get) (vs := [.int x3, .int 0]) (rest := []) (la := [.ref (w + 16), .int x3, .int 0]) dX5_inForce_20 rfl rfl rfl rfl (W_is16 hw) (Nat.le_of_ble_eq_true rfl) rfl (Nat.le_of_ble_eq_true rfl)
theorem B_X5_inForce_23 {o : q_H} {w : Nat} (hw : q_W w) (d : Nat) (x1 x2 x3 y0 : Int32) (g : Nat → Nat → Int32) : q_sem (d + 1) mX5_inForce 23 [.ref (w + 15), .int x1, .int x2, .int x3] [.int y0] (q_K o g) = (if y0 = x1 then (q_sem d mX7_get 0 [.ref (w + 16), .int x3, .int 1] [] (q_K o g)).bind (fun r => q_sem (d + 1) mX5_inForce 36 [.ref (w + 15), .int x1, .int x2, .int x3] (r.1.toList ++ []) r.2) else q_sem (d + 1) mX5_inForce 10 [.ref (w + 15), .int x1, .int x2, .int (x3 + (-1))] [] (q_K o g)) := by
  refine (q_blk (Y := mX5_inForce) (q_dcC dX5_inForce_23 (q_dcC dX5_inForce_24 q_dcN)) (show _ = some ((if q_cc .ne y0 x1 = true then 42 else 27), [.ref (w + 15), .int x1, .int x2, .int x3], []) from rfl)).trans ?_
  by_cases c1 : y0 = x1
  · rw [if_neg (show ¬ q_cc .ne y0 x1 = true from fun z => (of_decide_eq_true z : ¬ y0 = x1) c1)]
    refine Eq.trans ?_ (if_pos c1).symm
    refine (q_blk (Y := mX5_inForce) (q_dcC dX5_inForce_27 q_dcN) (show _ = some (28, [.ref (w + 15), .int x1, .int x2, .int x3], [.ref (w + 15)]) from rfl)).trans ?_
    refine (k_getr (Y := mX5_inForce) dX5_inForce_28 rfl rfl (W_is15 hw) (by decide) (W_r15_0 hw)).trans ?_
    refine (q_blk (Y := mX5_inForce) (q_dcC dX5_inForce_31 (q_dcC dX5_inForce_32 q_dcN)) (show _ = some (33, [.ref (w + 15), .int x1, .int x2, .int x3], [.int 1, .int x3, .ref (w + 16)]) from rfl)).trans ?_
    exact K_calV (d := d) (Y := mX5_inForce) (Z := mX7_get) (vs := [.int x3, .int 1]) (rest := []) (la := [.ref (w + 16), .int x3, .int 1]) dX5_inForce_33 rfl rfl rfl rfl (W_is16 hw) (Nat.le_of_ble_eq_true rfl) rfl (Nat.le_of_ble_eq_true rfl)
  · rw [if_pos (show q_cc .ne y0 x1 = true from decide_eq_true c1)]
    refine Eq.trans ?_ (if_neg c1).symm
    refine (q_blk (Y := mX5_inForce) (q_dcC dX5_inForce_42 (q_dcC dX5_inForce_45 q_dcN)) (show _ = some (10, [.ref (w + 15), .int x1, .int x2, .int (x3 + (-1))], []) from rfl)).trans ?_
    rfl
theorem B_X5_inForce_36 {o : q_H} {w : Nat} (hw : q_W w) (d : Nat) (x1 x2 x3 y0 : Int32) (g : Nat → Nat → Int32) : q_sem (d) mX5_inForce 36 [.ref (w + 15), .int x1, .int x2, .int x3] [.int y0] (q_K o g) = (if x2 < y0 then q_sem (d) mX5_inForce 10 [.ref (w + 15), .int x1, .int x2, .int (x3 + (-1))] [] (q_K o g) else some (some (.int x3), q_K o g)) := by
  refine (q_blk (Y := mX5_inForce) (q_dcC dX5_inForce_36 (q_dcC dX5_inForce_37 q_dcN)) (show _ = some ((if q_cc .gt y0 x2 = true then 42 else 40), [.ref (w + 15), .int x1, .int x2, .int x3], []) from rfl)).trans ?_
  by_cases c1 : x2 < y0
  · rw [if_pos (show q_cc .gt y0 x2 = true from decide_eq_true c1)]
    refine Eq.trans ?_ (if_pos c1).symm
    refine (q_blk (Y := mX5_inForce) (q_dcC dX5_inForce_42 (q_dcC dX5_inForce_45 q_dcN)) (show _ = some (10, [.ref (w + 15), .int x1, .int x2, .int (x3 + (-1))], []) from rfl)).trans ?_
    rfl
  · rw [if_neg (show ¬ q_cc .gt y0 x2 = true from fun z => c1 (of_decide_eq_true z))]
    refine Eq.trans ?_ (if_neg c1).symm
    refine (q_blk (Y := mX5_inForce) (q_dcC dX5_inForce_40 q_dcN) (show _ = some (41, [.ref (w + 15), .int x1, .int x2, .int x3], [.int x3]) from rfl)).trans ?_
    exact k_iret (Y := mX5_inForce) dX5_inForce_41 rfl
theorem B_X5_worth_0 {o : q_H} {w : Nat} (hw : q_W w) (d : Nat) (x1 x2 x3 x4 x5 : Int32) (g : Nat → Nat → Int32) : q_sem (d + 1) mX5_worth 0 [.ref (w + 15), .int x1, .int x2, .int x3, .int x4, .int x5, .retAddr 0, .retAddr 0, .retAddr 0] [] (q_K o g) = (q_sem d mX7_get 0 [.ref (w + 16), .int x1, .int 2] [] (q_K o (q_up (q_up (q_up (q_up g (w + 20) 0 x2) (w + 20) 1 x3) (w + 20) 2 x4) (w + 20) 3 x5))).bind (fun r => q_sem (d + 1) mX5_worth 42 [.ref (w + 15), .int x1, .int x2, .int x3, .int x4, .int x5, .int 0, .retAddr 0, .retAddr 0] (r.1.toList ++ []) r.2) := by
  refine (q_blk (Y := mX5_worth) (q_dcC dX5_worth_0 q_dcN) (show _ = some (1, [.ref (w + 15), .int x1, .int x2, .int x3, .int x4, .int x5, .retAddr 0, .retAddr 0, .retAddr 0], [.ref (w + 15)]) from rfl)).trans ?_
  refine (k_getr (Y := mX5_worth) dX5_worth_1 rfl rfl (W_is15 hw) (by decide) (W_r15_2 hw)).trans ?_
  refine (q_blk (Y := mX5_worth) (q_dcC dX5_worth_4 (q_dcC dX5_worth_5 q_dcN)) (show _ = some (6, [.ref (w + 15), .int x1, .int x2, .int x3, .int x4, .int x5, .retAddr 0, .retAddr 0, .retAddr 0], [.int x2, .int 0, .ref (w + 20)]) from rfl)).trans ?_
  refine (k_iastN (Y := mX5_worth) (j := 0) dX5_worth_6 (W_a20 hw) rfl ⟨by decide, by decide⟩).trans ?_
  refine (q_blk (Y := mX5_worth) (q_dcC dX5_worth_7 q_dcN) (show _ = some (8, [.ref (w + 15), .int x1, .int x2, .int x3, .int x4, .int x5, .retAddr 0, .retAddr 0, .retAddr 0], [.ref (w + 15)]) from rfl)).trans ?_
  refine (k_getr (Y := mX5_worth) dX5_worth_8 rfl rfl (W_is15 hw) (by decide) (W_r15_2 hw)).trans ?_
  refine (q_blk (Y := mX5_worth) (q_dcC dX5_worth_11 (q_dcC dX5_worth_12 q_dcN)) (show _ = some (13, [.ref (w + 15), .int x1, .int x2, .int x3, .int x4, .int x5, .retAddr 0, .retAddr 0, .retAddr 0], [.int x3, .int 1, .ref (w + 20)]) from rfl)).trans ?_
  refine (k_iastN (Y := mX5_worth) (j := 1) dX5_worth_13 (W_a20 hw) rfl ⟨by decide, by decide⟩).trans ?_
  refine (q_blk (Y := mX5_worth) (q_dcC dX5_worth_14 q_dcN) (show _ = some (15, [.ref (w + 15), .int x1, .int x2, .int x3, .int x4, .int x5, .retAddr 0, .retAddr 0, .retAddr 0], [.ref (w + 15)]) from rfl)).trans ?_
  refine (k_getr (Y := mX5_worth) dX5_worth_15 rfl rfl (W_is15 hw) (by decide) (W_r15_2 hw)).trans ?_
  refine (q_blk (Y := mX5_worth) (q_dcC dX5_worth_18 (q_dcC dX5_worth_19 q_dcN)) (show _ = some (21, [.ref (w + 15), .int x1, .int x2, .int x3, .int x4, .int x5, .retAddr 0, .retAddr 0, .retAddr 0], [.int x4, .int 2, .ref (w + 20)]) from rfl)).trans ?_
  refine (k_iastN (Y := mX5_worth) (j := 2) dX5_worth_21 (W_a20 hw) rfl ⟨by decide, by decide⟩).trans ?_
  refine (q_blk (Y := mX5_worth) (q_dcC dX5_worth_22 q_dcN) (show _ = some (23, [.ref (w + 15), .int x1, .int x2, .int x3, .int x4, .int x5, .retAddr 0, .retAddr 0, .retAddr 0], [.ref (w + 15)]) from rfl)).trans ?_
  refine (k_getr (Y := mX5_worth) dX5_worth_23 rfl rfl (W_is15 hw) (by decide) (W_r15_2 hw)).trans ?_
  refine (q_blk (Y := mX5_worth) (q_dcC dX5_worth_26 (q_dcC dX5_worth_27 q_dcN)) (show _ = some (29, [.ref (w + 15), .int x1, .int x2, .int x3, .int x4, .int x5, .retAddr 0, .retAddr 0, .retAddr 0], [.int x5, .int 3, .ref (w + 20)]) from rfl)).trans ?_
  refine (k_iastN (Y := mX5_worth) (j := 3) dX5_worth_29 (W_a20 hw) rfl ⟨by decide, by decide⟩).trans ?_
  refine (q_blk (Y := mX5_worth) (q_dcC dX5_worth_30 (q_dcC dX5_worth_31 (q_dcC dX5_worth_33 q_dcN))) (show _ = some (34, [.ref (w + 15), .int x1, .int x2, .int x3, .int x4, .int x5, .int 0, .retAddr 0, .retAddr 0], [.ref (w + 15)]) from rfl)).trans ?_
  refine (k_getr (Y := mX5_worth) dX5_worth_34 rfl rfl (W_is15 hw) (by decide) (W_r15_0 hw)).trans ?_
  refine (q_blk (Y := mX5_worth) (q_dcC dX5_worth_37 (q_dcC dX5_worth_38 q_dcN)) (show _ = some (39, [.ref (w + 15), .int x1, .int x2, .int x3, .int x4, .int x5, .int 0, .retAddr 0, .retAddr 0], [.int 2, .int x1, .ref (w + 16)]) from rfl)).trans ?_
  exact K_calV (d := d) (Y := mX5_worth) (Z := mX7_get) (vs := [.int x1, .int 2]) (rest := []) (la := [.ref (w + 16), .int x1, .int 2]) dX5_worth_39 rfl rfl rfl rfl (W_is16 hw) (Nat.le_of_ble_eq_true rfl) rfl (Nat.le_of_ble_eq_true rfl)
theorem B_X5_worth_42 {o : q_H} {w : Nat} (hw : q_W w) (d : Nat) (x1 x2 x3 x4 x5 x6 y0 : Int32) (g : Nat → Nat → Int32) : q_sem (d) mX5_worth 42 [.ref (w + 15), .int x1, .int x2, .int x3, .int x4, .int x5, .int x6, .retAddr 0, .retAddr 0] [.int y0] (q_K o g) = q_sem (d) mX5_worth 52 [.ref (w + 15), .int x1, .int x2, .int x3, .int x4, .int x5, .int x6, .int (if 50 < y0 then 50 else y0), .int 0] [] (q_K o g) := by
  refine (q_blk (Y := mX5_worth) (q_dcC dX5_worth_42 q_dcN) (show _ = some (44, [.ref (w + 15), .int x1, .int x2, .int x3, .int x4, .int x5, .int x6, .retAddr 0, .retAddr 0], [.int 50, .int y0]) from rfl)).trans ?_
  refine (k_min (Y := mX5_worth) dX5_worth_44 rfl rfl (by decide) (by decide) (by decide) (Nat.le_of_ble_eq_true rfl)).trans ?_
  refine (q_blk (Y := mX5_worth) (q_dcC dX5_worth_47 (q_dcC dX5_worth_49 (q_dcC dX5_worth_50 q_dcN))) (show _ = some (52, [.ref (w + 15), .int x1, .int x2, .int x3, .int x4, .int x5, .int x6, .int (if 50 < y0 then 50 else y0), .int 0], []) from rfl)).trans ?_
  rfl
theorem B_X5_worth_52 {o : q_H} {w : Nat} (hw : q_W w) (d : Nat) (x1 x2 x3 x4 x5 x6 x7 x8 : Int32) (g : Nat → Nat → Int32) : q_sem (d + 1) mX5_worth 52 [.ref (w + 15), .int x1, .int x2, .int x3, .int x4, .int x5, .int x6, .int x7, .int x8] [] (q_K o g) = (if x7 ≤ x8 then (q_sem d mX5_peek 0 [.ref (w + 15), .int (x6 - 1)] [] (q_K o g)).bind (fun r => q_sem (d + 1) mX5_worth 93 [.ref (w + 15), .int x1, .int x2, .int x3, .int x4, .int x5, .int x6, .int x7, .int x8] (r.1.toList ++ []) r.2) else (q_sem d mX7_get 0 [.ref (w + 16), .int x1, .int (3 + x8)] [] (q_K o g)).bind (fun r => q_sem (d + 1) mX5_worth 72 [.ref (w + 15), .int x1, .int x2, .int x3, .int x4, .int x5, .int x6, .int x7, .int x8] (r.1.toList ++ [.ref (w + 15)]) r.2)) := by
  refine (q_blk (Y := mX5_worth) (q_dcC dX5_worth_52 (q_dcC dX5_worth_54 (q_dcC dX5_worth_56 q_dcN))) (show _ = some ((if q_cc .ge x8 x7 = true then 85 else 59), [.ref (w + 15), .int x1, .int x2, .int x3, .int x4, .int x5, .int x6, .int x7, .int x8], []) from rfl)).trans ?_
  by_cases c1 : x7 ≤ x8
  · rw [if_pos (show q_cc .ge x8 x7 = true from decide_eq_true c1)]
    refine Eq.trans ?_ (if_pos c1).symm
    refine (q_blk (Y := mX5_worth) (q_dcC dX5_worth_85 (q_dcC dX5_worth_86 (q_dcC dX5_worth_88 (q_dcC dX5_worth_89 q_dcN)))) (show _ = some (90, [.ref (w + 15), .int x1, .int x2, .int x3, .int x4, .int x5, .int x6, .int x7, .int x8], [.int (x6 - 1), .ref (w + 15)]) from rfl)).trans ?_
    exact K_calV (d := d) (Y := mX5_worth) (Z := mX5_peek) (vs := [.int (x6 - 1)]) (rest := []) (la := [.ref (w + 15), .int (x6 - 1)]) dX5_worth_90 rfl rfl rfl rfl (W_is15 hw) (Nat.le_of_ble_eq_true rfl) rfl (Nat.le_of_ble_eq_true rfl)
  · rw [if_neg (show ¬ q_cc .ge x8 x7 = true from fun z => c1 (of_decide_eq_true z))]
    refine Eq.trans ?_ (if_neg c1).symm
    refine (q_blk (Y := mX5_worth) (q_dcC dX5_worth_59 (q_dcC dX5_worth_60 q_dcN)) (show _ = some (61, [.ref (w + 15), .int x1, .int x2, .int x3, .int x4, .int x5, .int x6, .int x7, .int x8], [.ref (w + 15), .ref (w + 15)]) from rfl)).trans ?_
    refine (k_getr (Y := mX5_worth) dX5_worth_61 rfl rfl (W_is15 hw) (by decide) (W_r15_0 hw)).trans ?_
    refine (q_blk (Y := mX5_worth) (q_dcC dX5_worth_64 (q_dcC dX5_worth_65 (q_dcC dX5_worth_66 (q_dcC dX5_worth_68 q_dcN)))) (show _ = some (69, [.ref (w + 15), .int x1, .int x2, .int x3, .int x4, .int x5, .int x6, .int x7, .int x8], [.int (3 + x8), .int x1, .ref (w + 16), .ref (w + 15)]) from rfl)).trans ?_
    exact K_calV (d := d) (Y := mX5_worth) (Z := mX7_get) (vs := [.int x1, .int (3 + x8)]) (rest := [.ref (w + 15)]) (la := [.ref (w + 16), .int x1, .int (3 + x8)]) dX5_worth_69 rfl rfl rfl rfl (W_is16 hw) (Nat.le_of_ble_eq_true rfl) rfl (Nat.le_of_ble_eq_true rfl)
theorem B_X5_worth_93 {o : q_H} {w : Nat} (hw : q_W w) (d : Nat) (x1 x2 x3 x4 x5 x6 x7 x8 y0 : Int32) (g : Nat → Nat → Int32) : q_sem (d) mX5_worth 93 [.ref (w + 15), .int x1, .int x2, .int x3, .int x4, .int x5, .int x6, .int x7, .int x8] [.int y0] (q_K o g) = some (some (.int y0), q_K o g) := by
  exact k_iret (Y := mX5_worth) dX5_worth_93 rfl
theorem B_X5_worth_72 {o : q_H} {w : Nat} (hw : q_W w) (d : Nat) (x1 x2 x3 x4 x5 x6 x7 x8 y0 : Int32) (g : Nat → Nat → Int32) : q_sem (d + 1) mX5_worth 72 [.ref (w + 15), .int x1, .int x2, .int x3, .int x4, .int x5, .int x6, .int x7, .int x8] [.int y0, .ref (w + 15)] (q_K o g) = (q_sem d mX5_apply 0 [.ref (w + 15), .int y0, .int x6, .retAddr 0] [] (q_K o g)).bind (fun r => q_sem (d + 1) mX5_worth 77 [.ref (w + 15), .int x1, .int x2, .int x3, .int x4, .int x5, .int x6, .int x7, .int x8] (r.1.toList ++ []) r.2) := by
  refine (q_blk (Y := mX5_worth) (q_dcC dX5_worth_72 q_dcN) (show _ = some (74, [.ref (w + 15), .int x1, .int x2, .int x3, .int x4, .int x5, .int x6, .int x7, .int x8], [.int x6, .int y0, .ref (w + 15)]) from rfl)).trans ?_
  exact K_calV (d := d) (Y := mX5_worth) (Z := mX5_apply) (vs := [.int y0, .int x6]) (rest := []) (la := [.ref (w + 15), .int y0, .int x6, .retAddr 0]) dX5_worth_74 rfl rfl rfl rfl (W_is15 hw) (Nat.le_of_ble_eq_true rfl) rfl (Nat.le_of_ble_eq_true rfl)
theorem B_X5_worth_77 {o : q_H} {w : Nat} (hw : q_W w) (d : Nat) (x1 x2 x3 x4 x5 x6 x7 x8 y0 : Int32) (g : Nat → Nat → Int32) : q_sem (d) mX5_worth 77 [.ref (w + 15), .int x1, .int x2, .int x3, .int x4, .int x5, .int x6, .int x7, .int x8] [.int y0] (q_K o g) = q_sem (d) mX5_worth 52 [.ref (w + 15), .int x1, .int x2, .int x3, .int x4, .int x5, .int y0, .int x7, .int (x8 + 1)] [] (q_K o g) := by
  refine (q_blk (Y := mX5_worth) (q_dcC dX5_worth_77 (q_dcC dX5_worth_79 (q_dcC dX5_worth_82 q_dcN))) (show _ = some (52, [.ref (w + 15), .int x1, .int x2, .int x3, .int x4, .int x5, .int y0, .int x7, .int (x8 + 1)], []) from rfl)).trans ?_
  rfl
theorem B_X5_apply_0 {o : q_H} {w : Nat} (hw : q_W w) (d : Nat) (x1 x2 : Int32) (g : Nat → Nat → Int32) : q_sem (d + 1) mX5_apply 0 [.ref (w + 15), .int x1, .int x2, .retAddr 0] [] (q_K o g) = (if 1000 ≤ x1 then (if 2000 ≤ x1 then (if x1 = 2033 then (q_sem d mX5_peek 0 [.ref (w + 15), .int (x2 - 1)] [] (q_K o g)).bind (fun r => q_sem (d + 1) mX5_apply 70 [.ref (w + 15), .int x1, .int x2, .retAddr 0] (r.1.toList ++ [.int (x2 - 1), .ref (w + 15)]) r.2) else (q_sem d mX5_peek 0 [.ref (w + 15), .int (x2 - 2)] [] (q_K o g)).bind (fun r => q_sem (d + 1) mX5_apply 98 [.ref (w + 15), .int x1, .int x2, .retAddr 0] (r.1.toList ++ [.int (x1 - 2000), .int (x2 - 2), .ref (w + 15)]) r.2)) else (if 4 ≤ (x1 - 1000) then (q_sem d mX5_push 0 [.ref (w + 15), .int x2, .int 0] [] (q_K o g)).bind (fun r => q_sem (d + 1) mX5_apply 51 [.ref (w + 15), .int x1, .int x2, .int (x1 - 1000)] (r.1.toList ++ []) r.2) else (q_rg (x1 - 1000) 4 (fun j5 => (q_sem d mX5_push 0 [.ref (w + 15), .int x2, .int (g (w + 20) j5)] [] (q_K o g)).bind (fun r => q_sem (d + 1) mX5_apply 51 [.ref (w + 15), .int x1, .int x2, .int (x1 - 1000)] (r.1.toList ++ []) r.2))))) else (q_sem d mX5_push 0 [.ref (w + 15), .int x2, .int x1] [] (q_K o g)).bind (fun r => q_sem (d + 1) mX5_apply 13 [.ref (w + 15), .int x1, .int x2, .retAddr 0] (r.1.toList ++ []) r.2)) := by
  refine (q_blk (Y := mX5_apply) (q_dcC dX5_apply_0 (q_dcC dX5_apply_1 (q_dcC dX5_apply_4 q_dcN))) (show _ = some ((if q_cc .ge x1 1000 = true then 14 else 7), [.ref (w + 15), .int x1, .int x2, .retAddr 0], []) from rfl)).trans ?_
  by_cases c1 : 1000 ≤ x1
  · rw [if_pos (show q_cc .ge x1 1000 = true from decide_eq_true c1)]
    refine Eq.trans ?_ (if_pos c1).symm
    refine (q_blk (Y := mX5_apply) (q_dcC dX5_apply_14 (q_dcC dX5_apply_15 (q_dcC dX5_apply_18 q_dcN))) (show _ = some ((if q_cc .ge x1 2000 = true then 52 else 21), [.ref (w + 15), .int x1, .int x2, .retAddr 0], []) from rfl)).trans ?_
    by_cases c2 : 2000 ≤ x1
    · rw [if_pos (show q_cc .ge x1 2000 = true from decide_eq_true c2)]
      refine Eq.trans ?_ (if_pos c2).symm
      refine (q_blk (Y := mX5_apply) (q_dcC dX5_apply_52 (q_dcC dX5_apply_53 (q_dcC dX5_apply_56 q_dcN))) (show _ = some ((if q_cc .ne x1 2033 = true then 82 else 59), [.ref (w + 15), .int x1, .int x2, .retAddr 0], []) from rfl)).trans ?_
      by_cases c3 : x1 = 2033
      · rw [if_neg (show ¬ q_cc .ne x1 2033 = true from fun z => (of_decide_eq_true z : ¬ x1 = 2033) c3)]
        refine Eq.trans ?_ (if_pos c3).symm
        refine (q_blk (Y := mX5_apply) (q_dcC dX5_apply_59 (q_dcC dX5_apply_60 (q_dcC dX5_apply_61 (q_dcC dX5_apply_62 (q_dcC dX5_apply_63 (q_dcC dX5_apply_64 (q_dcC dX5_apply_65 (q_dcC dX5_apply_66 q_dcN)))))))) (show _ = some (67, [.ref (w + 15), .int x1, .int x2, .retAddr 0], [.int (x2 - 1), .ref (w + 15), .int (x2 - 1), .ref (w + 15)]) from rfl)).trans ?_
        exact K_calV (d := d) (Y := mX5_apply) (Z := mX5_peek) (vs := [.int (x2 - 1)]) (rest := [.int (x2 - 1), .ref (w + 15)]) (la := [.ref (w + 15), .int (x2 - 1)]) dX5_apply_67 rfl rfl rfl rfl (W_is15 hw) (Nat.le_of_ble_eq_true rfl) rfl (Nat.le_of_ble_eq_true rfl)
      · rw [if_pos (show q_cc .ne x1 2033 = true from decide_eq_true c3)]
        refine Eq.trans ?_ (if_neg c3).symm
        refine (q_blk (Y := mX5_apply) (q_dcC dX5_apply_82 (q_dcC dX5_apply_83 (q_dcC dX5_apply_84 (q_dcC dX5_apply_85 (q_dcC dX5_apply_86 (q_dcC dX5_apply_87 (q_dcC dX5_apply_90 (q_dcC dX5_apply_91 (q_dcC dX5_apply_92 (q_dcC dX5_apply_93 (q_dcC dX5_apply_94 q_dcN))))))))))) (show _ = some (95, [.ref (w + 15), .int x1, .int x2, .retAddr 0], [.int (x2 - 2), .ref (w + 15), .int (x1 - 2000), .int (x2 - 2), .ref (w + 15)]) from rfl)).trans ?_
        exact K_calV (d := d) (Y := mX5_apply) (Z := mX5_peek) (vs := [.int (x2 - 2)]) (rest := [.int (x1 - 2000), .int (x2 - 2), .ref (w + 15)]) (la := [.ref (w + 15), .int (x2 - 2)]) dX5_apply_95 rfl rfl rfl rfl (W_is15 hw) (Nat.le_of_ble_eq_true rfl) rfl (Nat.le_of_ble_eq_true rfl)
    · rw [if_neg (show ¬ q_cc .ge x1 2000 = true from fun z => c2 (of_decide_eq_true z))]
      refine Eq.trans ?_ (if_neg c2).symm
      refine (q_blk (Y := mX5_apply) (q_dcC dX5_apply_21 (q_dcC dX5_apply_22 (q_dcC dX5_apply_25 (q_dcC dX5_apply_26 (q_dcC dX5_apply_27 (q_dcC dX5_apply_28 (q_dcC dX5_apply_29 (q_dcC dX5_apply_30 q_dcN)))))))) (show _ = some (31, [.ref (w + 15), .int x1, .int x2, .int (x1 - 1000)], [.ref (w + 15), .int (x1 - 1000), .int x2, .ref (w + 15)]) from rfl)).trans ?_
      refine (k_getr (Y := mX5_apply) dX5_apply_31 rfl rfl (W_is15 hw) (by decide) (W_r15_2 hw)).trans ?_
      refine (k_alen (Y := mX5_apply) dX5_apply_34 (W_a20 hw)).trans ?_
      refine (q_blk (Y := mX5_apply) (q_dcC dX5_apply_35 q_dcN) (show _ = some ((if q_cc .ge (x1 - 1000) 4 = true then 47 else 38), [.ref (w + 15), .int x1, .int x2, .int (x1 - 1000)], [.int x2, .ref (w + 15)]) from rfl)).trans ?_
      by_cases c4 : 4 ≤ (x1 - 1000)
      · rw [if_pos (show q_cc .ge (x1 - 1000) 4 = true from decide_eq_true c4)]
        refine Eq.trans ?_ (if_pos c4).symm
        refine (q_blk (Y := mX5_apply) (q_dcC dX5_apply_47 q_dcN) (show _ = some (48, [.ref (w + 15), .int x1, .int x2, .int (x1 - 1000)], [.int 0, .int x2, .ref (w + 15)]) from rfl)).trans ?_
        exact K_calV (d := d) (Y := mX5_apply) (Z := mX5_push) (vs := [.int x2, .int 0]) (rest := []) (la := [.ref (w + 15), .int x2, .int 0]) dX5_apply_48 rfl rfl rfl rfl (W_is15 hw) (Nat.le_of_ble_eq_true rfl) rfl (Nat.le_of_ble_eq_true rfl)
      · rw [if_neg (show ¬ q_cc .ge (x1 - 1000) 4 = true from fun z => c4 (of_decide_eq_true z))]
        refine Eq.trans ?_ (if_neg c4).symm
        refine (q_blk (Y := mX5_apply) (q_dcC dX5_apply_38 q_dcN) (show _ = some (39, [.ref (w + 15), .int x1, .int x2, .int (x1 - 1000)], [.ref (w + 15), .int x2, .ref (w + 15)]) from rfl)).trans ?_
        refine (k_getr (Y := mX5_apply) dX5_apply_39 rfl rfl (W_is15 hw) (by decide) (W_r15_2 hw)).trans ?_
        refine (q_blk (Y := mX5_apply) (q_dcC dX5_apply_42 q_dcN) (show _ = some (43, [.ref (w + 15), .int x1, .int x2, .int (x1 - 1000)], [.int (x1 - 1000), .ref (w + 20), .int x2, .ref (w + 15)]) from rfl)).trans ?_
        by_cases c5 : q_inn (x1 - 1000) 4
        rotate_left
        · refine Eq.trans ?_ (q_rgF c5).symm
          exact K_ialdX (Y := mX5_apply) dX5_apply_43 (W_a20 hw) c5
        refine Eq.trans ?_ (q_rgT c5).symm
        refine (K_iald (Y := mX5_apply) dX5_apply_43 (W_a20 hw) c5).trans ?_
        refine (q_blk (Y := mX5_apply) (q_dcC dX5_apply_44 q_dcN) (show _ = some (48, [.ref (w + 15), .int x1, .int x2, .int (x1 - 1000)], [.int (g (w + 20) (x1 - 1000).toNatClampNeg), .int x2, .ref (w + 15)]) from rfl)).trans ?_
        exact K_calV (d := d) (Y := mX5_apply) (Z := mX5_push) (vs := [.int x2, .int (g (w + 20) (x1 - 1000).toNatClampNeg)]) (rest := []) (la := [.ref (w + 15), .int x2, .int (g (w + 20) (x1 - 1000).toNatClampNeg)]) dX5_apply_48 rfl rfl rfl rfl (W_is15 hw) (Nat.le_of_ble_eq_true rfl) rfl (Nat.le_of_ble_eq_true rfl)
  · rw [if_neg (show ¬ q_cc .ge x1 1000 = true from fun z => c1 (of_decide_eq_true z))]
    refine Eq.trans ?_ (if_neg c1).symm
    refine (q_blk (Y := mX5_apply) (q_dcC dX5_apply_7 (q_dcC dX5_apply_8 (q_dcC dX5_apply_9 q_dcN))) (show _ = some (10, [.ref (w + 15), .int x1, .int x2, .retAddr 0], [.int x1, .int x2, .ref (w + 15)]) from rfl)).trans ?_
    exact K_calV (d := d) (Y := mX5_apply) (Z := mX5_push) (vs := [.int x2, .int x1]) (rest := []) (la := [.ref (w + 15), .int x2, .int x1]) dX5_apply_10 rfl rfl rfl rfl (W_is15 hw) (Nat.le_of_ble_eq_true rfl) rfl (Nat.le_of_ble_eq_true rfl)
theorem B_X5_apply_70 {o : q_H} {w : Nat} (hw : q_W w) (d : Nat) (x1 x2 y0 y1 : Int32) (g : Nat → Nat → Int32) : q_sem (d + 1) mX5_apply 70 [.ref (w + 15), .int x1, .int x2, .retAddr 0] [.int y0, .int y1, .ref (w + 15)] (q_K o g) = (if y0 = 0 then (q_sem d mX5_push 0 [.ref (w + 15), .int y1, .int 1] [] (q_K o g)).bind (fun r => q_sem (d + 1) mX5_apply 81 [.ref (w + 15), .int x1, .int x2, .retAddr 0] (r.1.toList ++ []) r.2) else (q_sem d mX5_push 0 [.ref (w + 15), .int y1, .int 0] [] (q_K o g)).bind (fun r => q_sem (d + 1) mX5_apply 81 [.ref (w + 15), .int x1, .int x2, .retAddr 0] (r.1.toList ++ []) r.2)) := by
  refine (q_blk (Y := mX5_apply) (q_dcC dX5_apply_70 q_dcN) (show _ = some ((if q_cc .ne y0 0 = true then 77 else 73), [.ref (w + 15), .int x1, .int x2, .retAddr 0], [.int y1, .ref (w + 15)]) from rfl)).trans ?_
  by_cases c1 : y0 = 0
  · rw [if_neg (show ¬ q_cc .ne y0 0 = true from fun z => (of_decide_eq_true z : ¬ y0 = 0) c1)]
    refine Eq.trans ?_ (if_pos c1).symm
    refine (q_blk (Y := mX5_apply) (q_dcC dX5_apply_73 (q_dcC dX5_apply_74 q_dcN)) (show _ = some (78, [.ref (w + 15), .int x1, .int x2, .retAddr 0], [.int 1, .int y1, .ref (w + 15)]) from rfl)).trans ?_
    exact K_calV (d := d) (Y := mX5_apply) (Z := mX5_push) (vs := [.int y1, .int 1]) (rest := []) (la := [.ref (w + 15), .int y1, .int 1]) dX5_apply_78 rfl rfl rfl rfl (W_is15 hw) (Nat.le_of_ble_eq_true rfl) rfl (Nat.le_of_ble_eq_true rfl)
  · rw [if_pos (show q_cc .ne y0 0 = true from decide_eq_true c1)]
    refine Eq.trans ?_ (if_neg c1).symm
    refine (q_blk (Y := mX5_apply) (q_dcC dX5_apply_77 q_dcN) (show _ = some (78, [.ref (w + 15), .int x1, .int x2, .retAddr 0], [.int 0, .int y1, .ref (w + 15)]) from rfl)).trans ?_
    exact K_calV (d := d) (Y := mX5_apply) (Z := mX5_push) (vs := [.int y1, .int 0]) (rest := []) (la := [.ref (w + 15), .int y1, .int 0]) dX5_apply_78 rfl rfl rfl rfl (W_is15 hw) (Nat.le_of_ble_eq_true rfl) rfl (Nat.le_of_ble_eq_true rfl)
theorem B_X5_apply_98 {o : q_H} {w : Nat} (hw : q_W w) (d : Nat) (x1 x2 y0 y1 y2 : Int32) (g : Nat → Nat → Int32) : q_sem (d + 1) mX5_apply 98 [.ref (w + 15), .int x1, .int x2, .retAddr 0] [.int y0, .int y1, .int y2, .ref (w + 15)] (q_K o g) = (q_sem d mX5_peek 0 [.ref (w + 15), .int (x2 - 1)] [] (q_K o g)).bind (fun r => q_sem (d + 1) mX5_apply 105 [.ref (w + 15), .int x1, .int x2, .retAddr 0] (r.1.toList ++ [.int y0, .int y1, .int y2, .ref (w + 15)]) r.2) := by
  refine (q_blk (Y := mX5_apply) (q_dcC dX5_apply_98 (q_dcC dX5_apply_99 (q_dcC dX5_apply_100 (q_dcC dX5_apply_101 q_dcN)))) (show _ = some (102, [.ref (w + 15), .int x1, .int x2, .retAddr 0], [.int (x2 - 1), .ref (w + 15), .int y0, .int y1, .int y2, .ref (w + 15)]) from rfl)).trans ?_
  exact K_calV (d := d) (Y := mX5_apply) (Z := mX5_peek) (vs := [.int (x2 - 1)]) (rest := [.int y0, .int y1, .int y2, .ref (w + 15)]) (la := [.ref (w + 15), .int (x2 - 1)]) dX5_apply_102 rfl rfl rfl rfl (W_is15 hw) (Nat.le_of_ble_eq_true rfl) rfl (Nat.le_of_ble_eq_true rfl)
theorem B_X5_apply_51 {o : q_H} {w : Nat} (hw : q_W w) (d : Nat) (x1 x2 x3 y0 : Int32) (g : Nat → Nat → Int32) : q_sem (d) mX5_apply 51 [.ref (w + 15), .int x1, .int x2, .int x3] [.int y0] (q_K o g) = some (some (.int y0), q_K o g) := by
  exact k_iret (Y := mX5_apply) dX5_apply_51 rfl
theorem B_X5_apply_13 {o : q_H} {w : Nat} (hw : q_W w) (d : Nat) (x1 x2 y0 : Int32) (g : Nat → Nat → Int32) : q_sem (d) mX5_apply 13 [.ref (w + 15), .int x1, .int x2, .retAddr 0] [.int y0] (q_K o g) = some (some (.int y0), q_K o g) := by
  exact k_iret (Y := mX5_apply) dX5_apply_13 rfl
theorem B_X5_apply_81 {o : q_H} {w : Nat} (hw : q_W w) (d : Nat) (x1 x2 y0 : Int32) (g : Nat → Nat → Int32) : q_sem (d) mX5_apply 81 [.ref (w + 15), .int x1, .int x2, .retAddr 0] [.int y0] (q_K o g) = some (some (.int y0), q_K o g) := by
  exact k_iret (Y := mX5_apply) dX5_apply_81 rfl
theorem B_X5_apply_105 {o : q_H} {w : Nat} (hw : q_W w) (d : Nat) (x1 x2 y0 y1 y2 y3 : Int32) (g : Nat → Nat → Int32) : q_sem (d + 1) mX5_apply 105 [.ref (w + 15), .int x1, .int x2, .retAddr 0] [.int y0, .int y1, .int y2, .int y3, .ref (w + 15)] (q_K o g) = (q_sem d mX5_joined 0 [.int y2, .int y1, .int y0] [] (q_K o g)).bind (fun r => q_sem (d + 1) mX5_apply 108 [.ref (w + 15), .int x1, .int x2, .retAddr 0] (r.1.toList ++ [.int y3, .ref (w + 15)]) r.2) := by
  exact K_calS (d := d) (Y := mX5_apply) (Z := mX5_joined) (vs := [.int y2, .int y1, .int y0]) (rest := [.int y3, .ref (w + 15)]) (la := [.int y2, .int y1, .int y0]) dX5_apply_105 rfl rfl rfl rfl (Nat.le_of_ble_eq_true rfl) rfl (Nat.le_of_ble_eq_true rfl)
theorem B_X5_apply_108 {o : q_H} {w : Nat} (hw : q_W w) (d : Nat) (x1 x2 y0 y1 : Int32) (g : Nat → Nat → Int32) : q_sem (d + 1) mX5_apply 108 [.ref (w + 15), .int x1, .int x2, .retAddr 0] [.int y0, .int y1, .ref (w + 15)] (q_K o g) = (q_sem d mX5_push 0 [.ref (w + 15), .int y1, .int y0] [] (q_K o g)).bind (fun r => q_sem (d + 1) mX5_apply 111 [.ref (w + 15), .int x1, .int x2, .retAddr 0] (r.1.toList ++ []) r.2) := by
  exact K_calV (d := d) (Y := mX5_apply) (Z := mX5_push) (vs := [.int y1, .int y0]) (rest := []) (la := [.ref (w + 15), .int y1, .int y0]) dX5_apply_108 rfl rfl rfl rfl (W_is15 hw) (Nat.le_of_ble_eq_true rfl) rfl (Nat.le_of_ble_eq_true rfl)
theorem B_X5_apply_111 {o : q_H} {w : Nat} (hw : q_W w) (d : Nat) (x1 x2 y0 : Int32) (g : Nat → Nat → Int32) : q_sem (d) mX5_apply 111 [.ref (w + 15), .int x1, .int x2, .retAddr 0] [.int y0] (q_K o g) = some (some (.int y0), q_K o g) := by
  exact k_iret (Y := mX5_apply) dX5_apply_111 rfl
theorem B_X5_push_0 {o : q_H} {w : Nat} (hw : q_W w) (d : Nat) (x1 x2 : Int32) (g : Nat → Nat → Int32) : q_sem (d) mX5_push 0 [.ref (w + 15), .int x1, .int x2] [] (q_K o g) = (if x1 < 0 then some (some (.int x1), q_K o g) else (if x1 < 50 then (q_rg x1 50 (fun j3 => some (some (.int (x1 + 1)), q_K o (q_up g (w + 21) j3 x2)))) else some (some (.int x1), q_K o g))) := by
  refine (q_blk (Y := mX5_push) (q_dcC dX5_push_0 (q_dcC dX5_push_1 q_dcN)) (show _ = some ((if q_cc .lt x1 0 = true then 13 else 4), [.ref (w + 15), .int x1, .int x2], []) from rfl)).trans ?_
  by_cases c1 : x1 < 0
  · rw [if_pos (show q_cc .lt x1 0 = true from decide_eq_true c1)]
    refine Eq.trans ?_ (if_pos c1).symm
    refine (q_blk (Y := mX5_push) (q_dcC dX5_push_13 q_dcN) (show _ = some (14, [.ref (w + 15), .int x1, .int x2], [.int x1]) from rfl)).trans ?_
    exact k_iret (Y := mX5_push) dX5_push_14 rfl
  · rw [if_neg (show ¬ q_cc .lt x1 0 = true from fun z => c1 (of_decide_eq_true z))]
    refine Eq.trans ?_ (if_neg c1).symm
    refine (q_blk (Y := mX5_push) (q_dcC dX5_push_4 (q_dcC dX5_push_5 q_dcN)) (show _ = some (6, [.ref (w + 15), .int x1, .int x2], [.ref (w + 15), .int x1]) from rfl)).trans ?_
    refine (k_getr (Y := mX5_push) dX5_push_6 rfl rfl (W_is15 hw) (by decide) (W_r15_3 hw)).trans ?_
    refine (k_alen (Y := mX5_push) dX5_push_9 (W_a21 hw)).trans ?_
    refine (q_blk (Y := mX5_push) (q_dcC dX5_push_10 q_dcN) (show _ = some ((if q_cc .lt x1 50 = true then 15 else 13), [.ref (w + 15), .int x1, .int x2], []) from rfl)).trans ?_
    by_cases c2 : x1 < 50
    · rw [if_pos (show q_cc .lt x1 50 = true from decide_eq_true c2)]
      refine Eq.trans ?_ (if_pos c2).symm
      refine (q_blk (Y := mX5_push) (q_dcC dX5_push_15 q_dcN) (show _ = some (16, [.ref (w + 15), .int x1, .int x2], [.ref (w + 15)]) from rfl)).trans ?_
      refine (k_getr (Y := mX5_push) dX5_push_16 rfl rfl (W_is15 hw) (by decide) (W_r15_3 hw)).trans ?_
      refine (q_blk (Y := mX5_push) (q_dcC dX5_push_19 (q_dcC dX5_push_20 q_dcN)) (show _ = some (21, [.ref (w + 15), .int x1, .int x2], [.int x2, .int x1, .ref (w + 21)]) from rfl)).trans ?_
      by_cases c3 : q_inn x1 50
      rotate_left
      · refine Eq.trans ?_ (q_rgF c3).symm
        exact K_iastX (Y := mX5_push) dX5_push_21 (W_a21 hw) c3
      refine Eq.trans ?_ (q_rgT c3).symm
      refine (K_iast (Y := mX5_push) dX5_push_21 (W_a21 hw) c3).trans ?_
      refine (q_blk (Y := mX5_push) (q_dcC dX5_push_22 (q_dcC dX5_push_23 (q_dcC dX5_push_24 q_dcN))) (show _ = some (25, [.ref (w + 15), .int x1, .int x2], [.int (x1 + 1)]) from rfl)).trans ?_
      exact k_iret (Y := mX5_push) dX5_push_25 rfl
    · rw [if_neg (show ¬ q_cc .lt x1 50 = true from fun z => c2 (of_decide_eq_true z))]
      refine Eq.trans ?_ (if_neg c2).symm
      refine (q_blk (Y := mX5_push) (q_dcC dX5_push_13 q_dcN) (show _ = some (14, [.ref (w + 15), .int x1, .int x2], [.int x1]) from rfl)).trans ?_
      exact k_iret (Y := mX5_push) dX5_push_14 rfl
theorem B_X5_peek_0 {o : q_H} {w : Nat} (hw : q_W w) (d : Nat) (x1 : Int32) (g : Nat → Nat → Int32) : q_sem (d) mX5_peek 0 [.ref (w + 15), .int x1] [] (q_K o g) = (if x1 < 0 then some (some (.int 0), q_K o g) else (if 50 ≤ x1 then some (some (.int 0), q_K o g) else (q_rg x1 50 (fun j3 => some (some (.int (g (w + 21) j3)), q_K o g))))) := by
  refine (q_blk (Y := mX5_peek) (q_dcC dX5_peek_0 (q_dcC dX5_peek_1 q_dcN)) (show _ = some ((if q_cc .lt x1 0 = true then 22 else 4), [.ref (w + 15), .int x1], []) from rfl)).trans ?_
  by_cases c1 : x1 < 0
  · rw [if_pos (show q_cc .lt x1 0 = true from decide_eq_true c1)]
    refine Eq.trans ?_ (if_pos c1).symm
    refine (q_blk (Y := mX5_peek) (q_dcC dX5_peek_22 q_dcN) (show _ = some (23, [.ref (w + 15), .int x1], [.int 0]) from rfl)).trans ?_
    exact k_iret (Y := mX5_peek) dX5_peek_23 rfl
  · rw [if_neg (show ¬ q_cc .lt x1 0 = true from fun z => c1 (of_decide_eq_true z))]
    refine Eq.trans ?_ (if_neg c1).symm
    refine (q_blk (Y := mX5_peek) (q_dcC dX5_peek_4 (q_dcC dX5_peek_5 q_dcN)) (show _ = some (6, [.ref (w + 15), .int x1], [.ref (w + 15), .int x1]) from rfl)).trans ?_
    refine (k_getr (Y := mX5_peek) dX5_peek_6 rfl rfl (W_is15 hw) (by decide) (W_r15_3 hw)).trans ?_
    refine (k_alen (Y := mX5_peek) dX5_peek_9 (W_a21 hw)).trans ?_
    refine (q_blk (Y := mX5_peek) (q_dcC dX5_peek_10 q_dcN) (show _ = some ((if q_cc .ge x1 50 = true then 22 else 13), [.ref (w + 15), .int x1], []) from rfl)).trans ?_
    by_cases c2 : 50 ≤ x1
    · rw [if_pos (show q_cc .ge x1 50 = true from decide_eq_true c2)]
      refine Eq.trans ?_ (if_pos c2).symm
      refine (q_blk (Y := mX5_peek) (q_dcC dX5_peek_22 q_dcN) (show _ = some (23, [.ref (w + 15), .int x1], [.int 0]) from rfl)).trans ?_
      exact k_iret (Y := mX5_peek) dX5_peek_23 rfl
    · rw [if_neg (show ¬ q_cc .ge x1 50 = true from fun z => c2 (of_decide_eq_true z))]
      refine Eq.trans ?_ (if_neg c2).symm
      refine (q_blk (Y := mX5_peek) (q_dcC dX5_peek_13 q_dcN) (show _ = some (14, [.ref (w + 15), .int x1], [.ref (w + 15)]) from rfl)).trans ?_
      refine (k_getr (Y := mX5_peek) dX5_peek_14 rfl rfl (W_is15 hw) (by decide) (W_r15_3 hw)).trans ?_
      refine (q_blk (Y := mX5_peek) (q_dcC dX5_peek_17 q_dcN) (show _ = some (18, [.ref (w + 15), .int x1], [.int x1, .ref (w + 21)]) from rfl)).trans ?_
      by_cases c3 : q_inn x1 50
      rotate_left
      · refine Eq.trans ?_ (q_rgF c3).symm
        exact K_ialdX (Y := mX5_peek) dX5_peek_18 (W_a21 hw) c3
      refine Eq.trans ?_ (q_rgT c3).symm
      refine (K_iald (Y := mX5_peek) dX5_peek_18 (W_a21 hw) c3).trans ?_
      refine (q_blk (Y := mX5_peek) (q_dcC dX5_peek_19 q_dcN) (show _ = some (23, [.ref (w + 15), .int x1], [.int (g (w + 21) x1.toNatClampNeg)]) from rfl)).trans ?_
      exact k_iret (Y := mX5_peek) dX5_peek_23 rfl
theorem B_X5_joined_0 {o : q_H} (d : Nat) (x0 x1 x2 : Int32) (g : Nat → Nat → Int32) : q_sem (d) mX5_joined 0 [.int x0, .int x1, .int x2] [] (q_K o g) = (if x0 = 38 then (if x1 = 0 then some (some (.int 0), q_K o g) else (if x2 = 0 then some (some (.int 0), q_K o g) else some (some (.int 1), q_K o g))) else (if x0 = 43 then some (some (.int (x1 + x2)), q_K o g) else (if x0 = 45 then some (some (.int (x1 - x2)), q_K o g) else (if x0 = 60 then (if x2 ≤ x1 then some (some (.int 0), q_K o g) else some (some (.int 1), q_K o g)) else (if x0 = 61 then (if x1 = x2 then some (some (.int 1), q_K o g) else some (some (.int 0), q_K o g)) else (if x0 = 62 then (if x1 ≤ x2 then some (some (.int 0), q_K o g) else some (some (.int 1), q_K o g)) else (if x0 = 124 then (if x1 = 0 then (if x2 = 0 then some (some (.int 0), q_K o g) else some (some (.int 1), q_K o g)) else some (some (.int 1), q_K o g)) else some (some (.int (x1 * x2)), q_K o g)))))))) := by
  refine (q_blk (Y := mX5_joined) (q_dcC dX5_joined_0 q_dcN) (show _ = some (1, [.int x0, .int x1, .int x2], [.int x0]) from rfl)).trans ?_
  by_cases c1 : x0 = 38
  · refine Eq.trans ?_ (if_pos c1).symm
    refine (k_sw (Y := mX5_joined) (t := 82) dX5_joined_1 rfl ⟨rfl, rfl⟩ (by rw [c1]; rfl)).trans ?_
    refine (q_blk (Y := mX5_joined) (q_dcC dX5_joined_82 (q_dcC dX5_joined_83 q_dcN)) (show _ = some ((if q_cc .eq x1 0 = true then 94 else 86), [.int x0, .int x1, .int x2], []) from rfl)).trans ?_
    by_cases c2 : x1 = 0
    · rw [if_pos (show q_cc .eq x1 0 = true from decide_eq_true c2)]
      refine Eq.trans ?_ (if_pos c2).symm
      refine (q_blk (Y := mX5_joined) (q_dcC dX5_joined_94 q_dcN) (show _ = some (95, [.int x0, .int x1, .int x2], [.int 0]) from rfl)).trans ?_
      exact k_iret (Y := mX5_joined) dX5_joined_95 rfl
    · rw [if_neg (show ¬ q_cc .eq x1 0 = true from fun z => c2 (of_decide_eq_true z))]
      refine Eq.trans ?_ (if_neg c2).symm
      refine (q_blk (Y := mX5_joined) (q_dcC dX5_joined_86 (q_dcC dX5_joined_87 q_dcN)) (show _ = some ((if q_cc .eq x2 0 = true then 94 else 90), [.int x0, .int x1, .int x2], []) from rfl)).trans ?_
      by_cases c3 : x2 = 0
      · rw [if_pos (show q_cc .eq x2 0 = true from decide_eq_true c3)]
        refine Eq.trans ?_ (if_pos c3).symm
        refine (q_blk (Y := mX5_joined) (q_dcC dX5_joined_94 q_dcN) (show _ = some (95, [.int x0, .int x1, .int x2], [.int 0]) from rfl)).trans ?_
        exact k_iret (Y := mX5_joined) dX5_joined_95 rfl
      · rw [if_neg (show ¬ q_cc .eq x2 0 = true from fun z => c3 (of_decide_eq_true z))]
        refine Eq.trans ?_ (if_neg c3).symm
        refine (q_blk (Y := mX5_joined) (q_dcC dX5_joined_90 (q_dcC dX5_joined_91 q_dcN)) (show _ = some (95, [.int x0, .int x1, .int x2], [.int 1]) from rfl)).trans ?_
        exact k_iret (Y := mX5_joined) dX5_joined_95 rfl
  refine Eq.trans ?_ (if_neg c1).symm
  by_cases c4 : x0 = 43
  · refine Eq.trans ?_ (if_pos c4).symm
    refine (k_sw (Y := mX5_joined) (t := 129) dX5_joined_1 rfl ⟨rfl, rfl⟩ (by rw [c4]; rfl)).trans ?_
    refine (q_blk (Y := mX5_joined) (q_dcC dX5_joined_129 (q_dcC dX5_joined_130 (q_dcC dX5_joined_131 q_dcN))) (show _ = some (132, [.int x0, .int x1, .int x2], [.int (x1 + x2)]) from rfl)).trans ?_
    exact k_iret (Y := mX5_joined) dX5_joined_132 rfl
  refine Eq.trans ?_ (if_neg c4).symm
  by_cases c5 : x0 = 45
  · refine Eq.trans ?_ (if_pos c5).symm
    refine (k_sw (Y := mX5_joined) (t := 133) dX5_joined_1 rfl ⟨rfl, rfl⟩ (by rw [c5]; rfl)).trans ?_
    refine (q_blk (Y := mX5_joined) (q_dcC dX5_joined_133 (q_dcC dX5_joined_134 (q_dcC dX5_joined_135 q_dcN))) (show _ = some (136, [.int x0, .int x1, .int x2], [.int (x1 - x2)]) from rfl)).trans ?_
    exact k_iret (Y := mX5_joined) dX5_joined_136 rfl
  refine Eq.trans ?_ (if_neg c5).symm
  by_cases c6 : x0 = 60
  · refine Eq.trans ?_ (if_pos c6).symm
    refine (k_sw (Y := mX5_joined) (t := 96) dX5_joined_1 rfl ⟨rfl, rfl⟩ (by rw [c6]; rfl)).trans ?_
    refine (q_blk (Y := mX5_joined) (q_dcC dX5_joined_96 (q_dcC dX5_joined_97 (q_dcC dX5_joined_98 q_dcN))) (show _ = some ((if q_cc .ge x1 x2 = true then 105 else 101), [.int x0, .int x1, .int x2], []) from rfl)).trans ?_
    by_cases c7 : x2 ≤ x1
    · rw [if_pos (show q_cc .ge x1 x2 = true from decide_eq_true c7)]
      refine Eq.trans ?_ (if_pos c7).symm
      refine (q_blk (Y := mX5_joined) (q_dcC dX5_joined_105 q_dcN) (show _ = some (106, [.int x0, .int x1, .int x2], [.int 0]) from rfl)).trans ?_
      exact k_iret (Y := mX5_joined) dX5_joined_106 rfl
    · rw [if_neg (show ¬ q_cc .ge x1 x2 = true from fun z => c7 (of_decide_eq_true z))]
      refine Eq.trans ?_ (if_neg c7).symm
      refine (q_blk (Y := mX5_joined) (q_dcC dX5_joined_101 (q_dcC dX5_joined_102 q_dcN)) (show _ = some (106, [.int x0, .int x1, .int x2], [.int 1]) from rfl)).trans ?_
      exact k_iret (Y := mX5_joined) dX5_joined_106 rfl
  refine Eq.trans ?_ (if_neg c6).symm
  by_cases c8 : x0 = 61
  · refine Eq.trans ?_ (if_pos c8).symm
    refine (k_sw (Y := mX5_joined) (t := 107) dX5_joined_1 rfl ⟨rfl, rfl⟩ (by rw [c8]; rfl)).trans ?_
    refine (q_blk (Y := mX5_joined) (q_dcC dX5_joined_107 (q_dcC dX5_joined_108 (q_dcC dX5_joined_109 q_dcN))) (show _ = some ((if q_cc .ne x1 x2 = true then 116 else 112), [.int x0, .int x1, .int x2], []) from rfl)).trans ?_
    by_cases c9 : x1 = x2
    · rw [if_neg (show ¬ q_cc .ne x1 x2 = true from fun z => (of_decide_eq_true z : ¬ x1 = x2) c9)]
      refine Eq.trans ?_ (if_pos c9).symm
      refine (q_blk (Y := mX5_joined) (q_dcC dX5_joined_112 (q_dcC dX5_joined_113 q_dcN)) (show _ = some (117, [.int x0, .int x1, .int x2], [.int 1]) from rfl)).trans ?_
      exact k_iret (Y := mX5_joined) dX5_joined_117 rfl
    · rw [if_pos (show q_cc .ne x1 x2 = true from decide_eq_true c9)]
      refine Eq.trans ?_ (if_neg c9).symm
      refine (q_blk (Y := mX5_joined) (q_dcC dX5_joined_116 q_dcN) (show _ = some (117, [.int x0, .int x1, .int x2], [.int 0]) from rfl)).trans ?_
      exact k_iret (Y := mX5_joined) dX5_joined_117 rfl
  refine Eq.trans ?_ (if_neg c8).symm
  by_cases c10 : x0 = 62
  · refine Eq.trans ?_ (if_pos c10).symm
    refine (k_sw (Y := mX5_joined) (t := 118) dX5_joined_1 rfl ⟨rfl, rfl⟩ (by rw [c10]; rfl)).trans ?_
    refine (q_blk (Y := mX5_joined) (q_dcC dX5_joined_118 (q_dcC dX5_joined_119 (q_dcC dX5_joined_120 q_dcN))) (show _ = some ((if q_cc .le x1 x2 = true then 127 else 123), [.int x0, .int x1, .int x2], []) from rfl)).trans ?_
    by_cases c11 : x1 ≤ x2
    · rw [if_pos (show q_cc .le x1 x2 = true from decide_eq_true c11)]
      refine Eq.trans ?_ (if_pos c11).symm
      refine (q_blk (Y := mX5_joined) (q_dcC dX5_joined_127 q_dcN) (show _ = some (128, [.int x0, .int x1, .int x2], [.int 0]) from rfl)).trans ?_
      exact k_iret (Y := mX5_joined) dX5_joined_128 rfl
    · rw [if_neg (show ¬ q_cc .le x1 x2 = true from fun z => c11 (of_decide_eq_true z))]
      refine Eq.trans ?_ (if_neg c11).symm
      refine (q_blk (Y := mX5_joined) (q_dcC dX5_joined_123 (q_dcC dX5_joined_124 q_dcN)) (show _ = some (128, [.int x0, .int x1, .int x2], [.int 1]) from rfl)).trans ?_
      exact k_iret (Y := mX5_joined) dX5_joined_128 rfl
  refine Eq.trans ?_ (if_neg c10).symm
  by_cases c12 : x0 = 124
  · refine Eq.trans ?_ (if_pos c12).symm
    refine (k_sw (Y := mX5_joined) (t := 68) dX5_joined_1 rfl ⟨rfl, rfl⟩ (by rw [c12]; rfl)).trans ?_
    refine (q_blk (Y := mX5_joined) (q_dcC dX5_joined_68 (q_dcC dX5_joined_69 q_dcN)) (show _ = some ((if q_cc .ne x1 0 = true then 76 else 72), [.int x0, .int x1, .int x2], []) from rfl)).trans ?_
    by_cases c13 : x1 = 0
    · rw [if_neg (show ¬ q_cc .ne x1 0 = true from fun z => (of_decide_eq_true z : ¬ x1 = 0) c13)]
      refine Eq.trans ?_ (if_pos c13).symm
      refine (q_blk (Y := mX5_joined) (q_dcC dX5_joined_72 (q_dcC dX5_joined_73 q_dcN)) (show _ = some ((if q_cc .eq x2 0 = true then 80 else 76), [.int x0, .int x1, .int x2], []) from rfl)).trans ?_
      by_cases c14 : x2 = 0
      · rw [if_pos (show q_cc .eq x2 0 = true from decide_eq_true c14)]
        refine Eq.trans ?_ (if_pos c14).symm
        refine (q_blk (Y := mX5_joined) (q_dcC dX5_joined_80 q_dcN) (show _ = some (81, [.int x0, .int x1, .int x2], [.int 0]) from rfl)).trans ?_
        exact k_iret (Y := mX5_joined) dX5_joined_81 rfl
      · rw [if_neg (show ¬ q_cc .eq x2 0 = true from fun z => c14 (of_decide_eq_true z))]
        refine Eq.trans ?_ (if_neg c14).symm
        refine (q_blk (Y := mX5_joined) (q_dcC dX5_joined_76 (q_dcC dX5_joined_77 q_dcN)) (show _ = some (81, [.int x0, .int x1, .int x2], [.int 1]) from rfl)).trans ?_
        exact k_iret (Y := mX5_joined) dX5_joined_81 rfl
    · rw [if_pos (show q_cc .ne x1 0 = true from decide_eq_true c13)]
      refine Eq.trans ?_ (if_neg c13).symm
      refine (q_blk (Y := mX5_joined) (q_dcC dX5_joined_76 (q_dcC dX5_joined_77 q_dcN)) (show _ = some (81, [.int x0, .int x1, .int x2], [.int 1]) from rfl)).trans ?_
      exact k_iret (Y := mX5_joined) dX5_joined_81 rfl
  refine Eq.trans ?_ (if_neg c12).symm
  refine (k_lsD (Y := mX5_joined) (t := 137) dX5_joined_1 (by rfl) (q_lso (v := x0) (by intro q hq; simp only [List.mem_cons, List.not_mem_nil, or_false] at hq; rcases hq with rfl | rfl | rfl | rfl | rfl | rfl | rfl; exact c1; exact c4; exact c5; exact c6; exact c8; exact c10; exact c12)) rfl).trans ?_
  refine (q_blk (Y := mX5_joined) (q_dcC dX5_joined_137 (q_dcC dX5_joined_138 (q_dcC dX5_joined_139 q_dcN))) (show _ = some (140, [.int x0, .int x1, .int x2], [.int (x1 * x2)]) from rfl)).trans ?_
  exact k_iret (Y := mX5_joined) dX5_joined_140 rfl
theorem B_X10_copyFrom_0 {o : q_H} {w : Nat} (hw : q_W w) {u : Nat} (hu : q_W u) (d : Nat) (g : Nat → Nat → Int32) : q_sem (d + 1) mX10_copyFrom 0 [.ref w, .ref u] [] (q_K o g) = (q_sem d mX7_copyFrom 0 [.ref (w + 1), .ref (u + 1)] [] (q_K o g)).bind (fun r => q_sem (d + 1) mX10_copyFrom 11 [.ref w, .ref u] (r.1.toList ++ []) r.2) := by
  refine (q_blk (Y := mX10_copyFrom) (q_dcC dX10_copyFrom_0 q_dcN) (show _ = some (1, [.ref w, .ref u], [.ref w]) from rfl)).trans ?_
  refine (k_getr (Y := mX10_copyFrom) dX10_copyFrom_1 rfl rfl (W_is0 hw) (by decide) (W_r0_0 hw)).trans ?_
  refine (q_blk (Y := mX10_copyFrom) (q_dcC dX10_copyFrom_4 q_dcN) (show _ = some (5, [.ref w, .ref u], [.ref u, .ref (w + 1)]) from rfl)).trans ?_
  refine (k_getr (Y := mX10_copyFrom) dX10_copyFrom_5 rfl rfl (W_is0 hu) (by decide) (W_r0_0 hu)).trans ?_
  exact K_calV (d := d) (Y := mX10_copyFrom) (Z := mX7_copyFrom) (vs := [.ref (u + 1)]) (rest := []) (la := [.ref (w + 1), .ref (u + 1)]) dX10_copyFrom_8 rfl rfl rfl rfl (W_is1 hw) (Nat.le_of_ble_eq_true rfl) rfl (Nat.le_of_ble_eq_true rfl)
theorem B_X10_copyFrom_11 {o : q_H} {w : Nat} (hw : q_W w) {u : Nat} (hu : q_W u) (d : Nat) (g : Nat → Nat → Int32) : q_sem (d + 1) mX10_copyFrom 11 [.ref w, .ref u] [] (q_K o g) = (q_sem d mX7_copyFrom 0 [.ref (w + 3), .ref (u + 3)] [] (q_K o g)).bind (fun r => q_sem (d + 1) mX10_copyFrom 22 [.ref w, .ref u] (r.1.toList ++ []) r.2) := by
  refine (q_blk (Y := mX10_copyFrom) (q_dcC dX10_copyFrom_11 q_dcN) (show _ = some (12, [.ref w, .ref u], [.ref w]) from rfl)).trans ?_
  refine (k_getr (Y := mX10_copyFrom) dX10_copyFrom_12 rfl rfl (W_is0 hw) (by decide) (W_r0_1 hw)).trans ?_
  refine (q_blk (Y := mX10_copyFrom) (q_dcC dX10_copyFrom_15 q_dcN) (show _ = some (16, [.ref w, .ref u], [.ref u, .ref (w + 3)]) from rfl)).trans ?_
  refine (k_getr (Y := mX10_copyFrom) dX10_copyFrom_16 rfl rfl (W_is0 hu) (by decide) (W_r0_1 hu)).trans ?_
  exact K_calV (d := d) (Y := mX10_copyFrom) (Z := mX7_copyFrom) (vs := [.ref (u + 3)]) (rest := []) (la := [.ref (w + 3), .ref (u + 3)]) dX10_copyFrom_19 rfl rfl rfl rfl (W_is3 hw) (Nat.le_of_ble_eq_true rfl) rfl (Nat.le_of_ble_eq_true rfl)
theorem B_X10_copyFrom_22 {o : q_H} {w : Nat} (hw : q_W w) {u : Nat} (hu : q_W u) (d : Nat) (g : Nat → Nat → Int32) : q_sem (d + 1) mX10_copyFrom 22 [.ref w, .ref u] [] (q_K o g) = (q_sem d mX7_copyFrom 0 [.ref (w + 5), .ref (u + 5)] [] (q_K o g)).bind (fun r => q_sem (d + 1) mX10_copyFrom 33 [.ref w, .ref u] (r.1.toList ++ []) r.2) := by
  refine (q_blk (Y := mX10_copyFrom) (q_dcC dX10_copyFrom_22 q_dcN) (show _ = some (23, [.ref w, .ref u], [.ref w]) from rfl)).trans ?_
  refine (k_getr (Y := mX10_copyFrom) dX10_copyFrom_23 rfl rfl (W_is0 hw) (by decide) (W_r0_2 hw)).trans ?_
  refine (q_blk (Y := mX10_copyFrom) (q_dcC dX10_copyFrom_26 q_dcN) (show _ = some (27, [.ref w, .ref u], [.ref u, .ref (w + 5)]) from rfl)).trans ?_
  refine (k_getr (Y := mX10_copyFrom) dX10_copyFrom_27 rfl rfl (W_is0 hu) (by decide) (W_r0_2 hu)).trans ?_
  exact K_calV (d := d) (Y := mX10_copyFrom) (Z := mX7_copyFrom) (vs := [.ref (u + 5)]) (rest := []) (la := [.ref (w + 5), .ref (u + 5)]) dX10_copyFrom_30 rfl rfl rfl rfl (W_is5 hw) (Nat.le_of_ble_eq_true rfl) rfl (Nat.le_of_ble_eq_true rfl)
theorem B_X10_copyFrom_33 {o : q_H} {w : Nat} (hw : q_W w) {u : Nat} (hu : q_W u) (d : Nat) (g : Nat → Nat → Int32) : q_sem (d + 1) mX10_copyFrom 33 [.ref w, .ref u] [] (q_K o g) = (q_sem d mX7_copyFrom 0 [.ref (w + 7), .ref (u + 7)] [] (q_K o g)).bind (fun r => q_sem (d + 1) mX10_copyFrom 44 [.ref w, .ref u] (r.1.toList ++ []) r.2) := by
  refine (q_blk (Y := mX10_copyFrom) (q_dcC dX10_copyFrom_33 q_dcN) (show _ = some (34, [.ref w, .ref u], [.ref w]) from rfl)).trans ?_
  refine (k_getr (Y := mX10_copyFrom) dX10_copyFrom_34 rfl rfl (W_is0 hw) (by decide) (W_r0_3 hw)).trans ?_
  refine (q_blk (Y := mX10_copyFrom) (q_dcC dX10_copyFrom_37 q_dcN) (show _ = some (38, [.ref w, .ref u], [.ref u, .ref (w + 7)]) from rfl)).trans ?_
  refine (k_getr (Y := mX10_copyFrom) dX10_copyFrom_38 rfl rfl (W_is0 hu) (by decide) (W_r0_3 hu)).trans ?_
  exact K_calV (d := d) (Y := mX10_copyFrom) (Z := mX7_copyFrom) (vs := [.ref (u + 7)]) (rest := []) (la := [.ref (w + 7), .ref (u + 7)]) dX10_copyFrom_41 rfl rfl rfl rfl (W_is7 hw) (Nat.le_of_ble_eq_true rfl) rfl (Nat.le_of_ble_eq_true rfl)
theorem B_X10_copyFrom_44 {o : q_H} {w : Nat} (hw : q_W w) {u : Nat} (hu : q_W u) (d : Nat) (g : Nat → Nat → Int32) : q_sem (d + 1) mX10_copyFrom 44 [.ref w, .ref u] [] (q_K o g) = (q_sem d mX7_copyFrom 0 [.ref (w + 9), .ref (u + 9)] [] (q_K o g)).bind (fun r => q_sem (d + 1) mX10_copyFrom 55 [.ref w, .ref u] (r.1.toList ++ []) r.2) := by
  refine (q_blk (Y := mX10_copyFrom) (q_dcC dX10_copyFrom_44 q_dcN) (show _ = some (45, [.ref w, .ref u], [.ref w]) from rfl)).trans ?_
  refine (k_getr (Y := mX10_copyFrom) dX10_copyFrom_45 rfl rfl (W_is0 hw) (by decide) (W_r0_4 hw)).trans ?_
  refine (q_blk (Y := mX10_copyFrom) (q_dcC dX10_copyFrom_48 q_dcN) (show _ = some (49, [.ref w, .ref u], [.ref u, .ref (w + 9)]) from rfl)).trans ?_
  refine (k_getr (Y := mX10_copyFrom) dX10_copyFrom_49 rfl rfl (W_is0 hu) (by decide) (W_r0_4 hu)).trans ?_
  exact K_calV (d := d) (Y := mX10_copyFrom) (Z := mX7_copyFrom) (vs := [.ref (u + 9)]) (rest := []) (la := [.ref (w + 9), .ref (u + 9)]) dX10_copyFrom_52 rfl rfl rfl rfl (W_is9 hw) (Nat.le_of_ble_eq_true rfl) rfl (Nat.le_of_ble_eq_true rfl)
theorem B_X10_copyFrom_55 {o : q_H} {w : Nat} (hw : q_W w) {u : Nat} (hu : q_W u) (d : Nat) (g : Nat → Nat → Int32) : q_sem (d + 1) mX10_copyFrom 55 [.ref w, .ref u] [] (q_K o g) = (q_sem d mX7_copyFrom 0 [.ref (w + 11), .ref (u + 11)] [] (q_K o g)).bind (fun r => q_sem (d + 1) mX10_copyFrom 66 [.ref w, .ref u] (r.1.toList ++ []) r.2) := by
  refine (q_blk (Y := mX10_copyFrom) (q_dcC dX10_copyFrom_55 q_dcN) (show _ = some (56, [.ref w, .ref u], [.ref w]) from rfl)).trans ?_
  refine (k_getr (Y := mX10_copyFrom) dX10_copyFrom_56 rfl rfl (W_is0 hw) (by decide) (W_r0_5 hw)).trans ?_
  refine (q_blk (Y := mX10_copyFrom) (q_dcC dX10_copyFrom_59 q_dcN) (show _ = some (60, [.ref w, .ref u], [.ref u, .ref (w + 11)]) from rfl)).trans ?_
  refine (k_getr (Y := mX10_copyFrom) dX10_copyFrom_60 rfl rfl (W_is0 hu) (by decide) (W_r0_5 hu)).trans ?_
  exact K_calV (d := d) (Y := mX10_copyFrom) (Z := mX7_copyFrom) (vs := [.ref (u + 11)]) (rest := []) (la := [.ref (w + 11), .ref (u + 11)]) dX10_copyFrom_63 rfl rfl rfl rfl (W_is11 hw) (Nat.le_of_ble_eq_true rfl) rfl (Nat.le_of_ble_eq_true rfl)
theorem B_X10_copyFrom_66 {o : q_H} {w : Nat} (hw : q_W w) {u : Nat} (hu : q_W u) (d : Nat) (g : Nat → Nat → Int32) : q_sem (d + 1) mX10_copyFrom 66 [.ref w, .ref u] [] (q_K o g) = (q_sem d mX7_copyFrom 0 [.ref (w + 13), .ref (u + 13)] [] (q_K o g)).bind (fun r => q_sem (d + 1) mX10_copyFrom 77 [.ref w, .ref u] (r.1.toList ++ []) r.2) := by
  refine (q_blk (Y := mX10_copyFrom) (q_dcC dX10_copyFrom_66 q_dcN) (show _ = some (67, [.ref w, .ref u], [.ref w]) from rfl)).trans ?_
  refine (k_getr (Y := mX10_copyFrom) dX10_copyFrom_67 rfl rfl (W_is0 hw) (by decide) (W_r0_6 hw)).trans ?_
  refine (q_blk (Y := mX10_copyFrom) (q_dcC dX10_copyFrom_70 q_dcN) (show _ = some (71, [.ref w, .ref u], [.ref u, .ref (w + 13)]) from rfl)).trans ?_
  refine (k_getr (Y := mX10_copyFrom) dX10_copyFrom_71 rfl rfl (W_is0 hu) (by decide) (W_r0_6 hu)).trans ?_
  exact K_calV (d := d) (Y := mX10_copyFrom) (Z := mX7_copyFrom) (vs := [.ref (u + 13)]) (rest := []) (la := [.ref (w + 13), .ref (u + 13)]) dX10_copyFrom_74 rfl rfl rfl rfl (W_is13 hw) (Nat.le_of_ble_eq_true rfl) rfl (Nat.le_of_ble_eq_true rfl)
theorem B_X10_copyFrom_77 {o : q_H} {w : Nat} (hw : q_W w) {u : Nat} (hu : q_W u) (d : Nat) (g : Nat → Nat → Int32) : q_sem (d + 1) mX10_copyFrom 77 [.ref w, .ref u] [] (q_K o g) = (q_sem d mX5_copyFrom 0 [.ref (w + 15), .ref (u + 15)] [] (q_K o g)).bind (fun r => q_sem (d + 1) mX10_copyFrom 88 [.ref w, .ref u] (r.1.toList ++ []) r.2) := by
  refine (q_blk (Y := mX10_copyFrom) (q_dcC dX10_copyFrom_77 q_dcN) (show _ = some (78, [.ref w, .ref u], [.ref w]) from rfl)).trans ?_
  refine (k_getr (Y := mX10_copyFrom) dX10_copyFrom_78 rfl rfl (W_is0 hw) (by decide) (W_r0_7 hw)).trans ?_
  refine (q_blk (Y := mX10_copyFrom) (q_dcC dX10_copyFrom_81 q_dcN) (show _ = some (82, [.ref w, .ref u], [.ref u, .ref (w + 15)]) from rfl)).trans ?_
  refine (k_getr (Y := mX10_copyFrom) dX10_copyFrom_82 rfl rfl (W_is0 hu) (by decide) (W_r0_7 hu)).trans ?_
  exact K_calV (d := d) (Y := mX10_copyFrom) (Z := mX5_copyFrom) (vs := [.ref (u + 15)]) (rest := []) (la := [.ref (w + 15), .ref (u + 15)]) dX10_copyFrom_85 rfl rfl rfl rfl (W_is15 hw) (Nat.le_of_ble_eq_true rfl) rfl (Nat.le_of_ble_eq_true rfl)
theorem B_X10_copyFrom_88 {o : q_H} {w : Nat} (hw : q_W w) {u : Nat} (hu : q_W u) (d : Nat) (g : Nat → Nat → Int32) : q_sem (d) mX10_copyFrom 88 [.ref w, .ref u] [] (q_K o g) = some (none, q_K o (q_up (q_up (q_up g w 8 (g u 8)) w 9 ((q_up g w 8 (g u 8)) u 9)) w 10 ((q_up (q_up g w 8 (g u 8)) w 9 ((q_up g w 8 (g u 8)) u 9)) u 10))) := by
  refine (q_blk (Y := mX10_copyFrom) (q_dcC dX10_copyFrom_88 (q_dcC dX10_copyFrom_89 q_dcN)) (show _ = some (90, [.ref w, .ref u], [.ref u, .ref w]) from rfl)).trans ?_
  refine (k_geti (Y := mX10_copyFrom) dX10_copyFrom_90 rfl rfl (W_is0 hu) (by decide) (W_n0_8 hu)).trans ?_
  refine (k_puti (Y := mX10_copyFrom) dX10_copyFrom_93 rfl (W_is0 hw) (by decide) (W_n0_8 hw) rfl rfl rfl).trans ?_
  refine (q_blk (Y := mX10_copyFrom) (q_dcC dX10_copyFrom_96 (q_dcC dX10_copyFrom_97 q_dcN)) (show _ = some (98, [.ref w, .ref u], [.ref u, .ref w]) from rfl)).trans ?_
  refine (k_geti (Y := mX10_copyFrom) dX10_copyFrom_98 rfl rfl (W_is0 hu) (by decide) (W_n0_9 hu)).trans ?_
  refine (k_puti (Y := mX10_copyFrom) dX10_copyFrom_101 rfl (W_is0 hw) (by decide) (W_n0_9 hw) rfl rfl rfl).trans ?_
  refine (q_blk (Y := mX10_copyFrom) (q_dcC dX10_copyFrom_104 (q_dcC dX10_copyFrom_105 q_dcN)) (show _ = some (106, [.ref w, .ref u], [.ref u, .ref w]) from rfl)).trans ?_
  refine (k_geti (Y := mX10_copyFrom) dX10_copyFrom_106 rfl rfl (W_is0 hu) (by decide) (W_n0_10 hu)).trans ?_
  refine (k_puti (Y := mX10_copyFrom) dX10_copyFrom_109 rfl (W_is0 hw) (by decide) (W_n0_10 hw) rfl rfl rfl).trans ?_
  exact k_vret (Y := mX10_copyFrom) dX10_copyFrom_112 rfl
theorem B_X10_isSeen_0 {o : q_H} {w : Nat} (hw : q_W w) (d : Nat) (x1 : Int32) (g : Nat → Nat → Int32) : q_sem (d) mX10_isSeen 0 [.ref w, .int x1, .retAddr 0] [] (q_K o g) = q_sem (d) mX10_isSeen 2 [.ref w, .int x1, .int 0] [] (q_K o g) := by
  refine (q_blk (Y := mX10_isSeen) (q_dcC dX10_isSeen_0 (q_dcC dX10_isSeen_1 q_dcN)) (show _ = some (2, [.ref w, .int x1, .int 0], []) from rfl)).trans ?_
  rfl
theorem B_X10_isSeen_2 {o : q_H} {w : Nat} (hw : q_W w) (d : Nat) (x1 x2 : Int32) (g : Nat → Nat → Int32) : q_sem (d + 1) mX10_isSeen 2 [.ref w, .int x1, .int x2] [] (q_K o g) = (q_sem d mX7_size 0 [.ref (w + 1)] [] (q_K o g)).bind (fun r => q_sem (d + 1) mX10_isSeen 10 [.ref w, .int x1, .int x2] (r.1.toList ++ [.int x2]) r.2) := by
  refine (q_blk (Y := mX10_isSeen) (q_dcC dX10_isSeen_2 (q_dcC dX10_isSeen_3 q_dcN)) (show _ = some (4, [.ref w, .int x1, .int x2], [.ref w, .int x2]) from rfl)).trans ?_
  refine (k_getr (Y := mX10_isSeen) dX10_isSeen_4 rfl rfl (W_is0 hw) (by decide) (W_r0_0 hw)).trans ?_
  exact K_calV (d := d) (Y := mX10_isSeen) (Z := mX7_size) (vs := []) (rest := [.int x2]) (la := [.ref (w + 1)]) dX10_isSeen_7 rfl rfl rfl rfl (W_is1 hw) (Nat.le_of_ble_eq_true rfl) rfl (Nat.le_of_ble_eq_true rfl)
theorem B_X10_isSeen_10 {o : q_H} {w : Nat} (hw : q_W w) (d : Nat) (x1 x2 y0 y1 : Int32) (g : Nat → Nat → Int32) : q_sem (d + 1) mX10_isSeen 10 [.ref w, .int x1, .int x2] [.int y0, .int y1] (q_K o g) = (if y0 ≤ y1 then some (some (.int 0), q_K o g) else (q_sem d mX7_get 0 [.ref (w + 1), .int x2, .int 2] [] (q_K o g)).bind (fun r => q_sem (d + 1) mX10_isSeen 22 [.ref w, .int x1, .int x2] (r.1.toList ++ []) r.2)) := by
  refine (q_blk (Y := mX10_isSeen) (q_dcC dX10_isSeen_10 q_dcN) (show _ = some ((if q_cc .ge y1 y0 = true then 58 else 13), [.ref w, .int x1, .int x2], []) from rfl)).trans ?_
  by_cases c1 : y0 ≤ y1
  · rw [if_pos (show q_cc .ge y1 y0 = true from decide_eq_true c1)]
    refine Eq.trans ?_ (if_pos c1).symm
    refine (q_blk (Y := mX10_isSeen) (q_dcC dX10_isSeen_58 q_dcN) (show _ = some (59, [.ref w, .int x1, .int x2], [.int 0]) from rfl)).trans ?_
    exact k_iret (Y := mX10_isSeen) dX10_isSeen_59 rfl
  · rw [if_neg (show ¬ q_cc .ge y1 y0 = true from fun z => c1 (of_decide_eq_true z))]
    refine Eq.trans ?_ (if_neg c1).symm
    refine (q_blk (Y := mX10_isSeen) (q_dcC dX10_isSeen_13 q_dcN) (show _ = some (14, [.ref w, .int x1, .int x2], [.ref w]) from rfl)).trans ?_
    refine (k_getr (Y := mX10_isSeen) dX10_isSeen_14 rfl rfl (W_is0 hw) (by decide) (W_r0_0 hw)).trans ?_
    refine (q_blk (Y := mX10_isSeen) (q_dcC dX10_isSeen_17 (q_dcC dX10_isSeen_18 q_dcN)) (show _ = some (19, [.ref w, .int x1, .int x2], [.int 2, .int x2, .ref (w + 1)]) from rfl)).trans ?_
    exact K_calV (d := d) (Y := mX10_isSeen) (Z := mX7_get) (vs := [.int x2, .int 2]) (rest := []) (la := [.ref (w + 1), .int x2, .int 2]) dX10_isSeen_19 rfl rfl rfl rfl (W_is1 hw) (Nat.le_of_ble_eq_true rfl) rfl (Nat.le_of_ble_eq_true rfl)
theorem B_X10_isSeen_22 {o : q_H} {w : Nat} (hw : q_W w) (d : Nat) (x1 x2 y0 : Int32) (g : Nat → Nat → Int32) : q_sem (d + 1) mX10_isSeen 22 [.ref w, .int x1, .int x2] [.int y0] (q_K o g) = (if y0 = 0 then (q_sem d mX7_get 0 [.ref (w + 1), .int x2, .int 0] [] (q_K o g)).bind (fun r => q_sem (d + 1) mX10_isSeen 35 [.ref w, .int x1, .int x2] (r.1.toList ++ [.int x1]) r.2) else q_sem (d + 1) mX10_isSeen 2 [.ref w, .int x1, .int (x2 + 1)] [] (q_K o g)) := by
  refine (q_blk (Y := mX10_isSeen) (q_dcC dX10_isSeen_22 q_dcN) (show _ = some ((if q_cc .ne y0 0 = true then 52 else 25), [.ref w, .int x1, .int x2], []) from rfl)).trans ?_
  by_cases c1 : y0 = 0
  · rw [if_neg (show ¬ q_cc .ne y0 0 = true from fun z => (of_decide_eq_true z : ¬ y0 = 0) c1)]
    refine Eq.trans ?_ (if_pos c1).symm
    refine (q_blk (Y := mX10_isSeen) (q_dcC dX10_isSeen_25 (q_dcC dX10_isSeen_26 q_dcN)) (show _ = some (27, [.ref w, .int x1, .int x2], [.ref w, .int x1]) from rfl)).trans ?_
    refine (k_getr (Y := mX10_isSeen) dX10_isSeen_27 rfl rfl (W_is0 hw) (by decide) (W_r0_0 hw)).trans ?_
    refine (q_blk (Y := mX10_isSeen) (q_dcC dX10_isSeen_30 (q_dcC dX10_isSeen_31 q_dcN)) (show _ = some (32, [.ref w, .int x1, .int x2], [.int 0, .int x2, .ref (w + 1), .int x1]) from rfl)).trans ?_
    exact K_calV (d := d) (Y := mX10_isSeen) (Z := mX7_get) (vs := [.int x2, .int 0]) (rest := [.int x1]) (la := [.ref (w + 1), .int x2, .int 0]) dX10_isSeen_32 rfl rfl rfl rfl (W_is1 hw) (Nat.le_of_ble_eq_true rfl) rfl (Nat.le_of_ble_eq_true rfl)
  · rw [if_pos (show q_cc .ne y0 0 = true from decide_eq_true c1)]
    refine Eq.trans ?_ (if_neg c1).symm
    refine (q_blk (Y := mX10_isSeen) (q_dcC dX10_isSeen_52 (q_dcC dX10_isSeen_55 q_dcN)) (show _ = some (2, [.ref w, .int x1, .int (x2 + 1)], []) from rfl)).trans ?_
    rfl
theorem B_X10_isSeen_35 {o : q_H} {w : Nat} (hw : q_W w) (d : Nat) (x1 x2 y0 y1 : Int32) (g : Nat → Nat → Int32) : q_sem (d + 1) mX10_isSeen 35 [.ref w, .int x1, .int x2] [.int y0, .int y1] (q_K o g) = (q_sem d mX7_get 0 [.ref (w + 1), .int x2, .int 1] [] (q_K o g)).bind (fun r => q_sem (d + 1) mX10_isSeen 44 [.ref w, .int x1, .int x2] (r.1.toList ++ [.int y0, .int y1]) r.2) := by
  refine (q_blk (Y := mX10_isSeen) (q_dcC dX10_isSeen_35 q_dcN) (show _ = some (36, [.ref w, .int x1, .int x2], [.ref w, .int y0, .int y1]) from rfl)).trans ?_
  refine (k_getr (Y := mX10_isSeen) dX10_isSeen_36 rfl rfl (W_is0 hw) (by decide) (W_r0_0 hw)).trans ?_
  refine (q_blk (Y := mX10_isSeen) (q_dcC dX10_isSeen_39 (q_dcC dX10_isSeen_40 q_dcN)) (show _ = some (41, [.ref w, .int x1, .int x2], [.int 1, .int x2, .ref (w + 1), .int y0, .int y1]) from rfl)).trans ?_
  exact K_calV (d := d) (Y := mX10_isSeen) (Z := mX7_get) (vs := [.int x2, .int 1]) (rest := [.int y0, .int y1]) (la := [.ref (w + 1), .int x2, .int 1]) dX10_isSeen_41 rfl rfl rfl rfl (W_is1 hw) (Nat.le_of_ble_eq_true rfl) rfl (Nat.le_of_ble_eq_true rfl)
theorem B_X10_isSeen_44 {o : q_H} {w : Nat} (hw : q_W w) (d : Nat) (x1 x2 y0 y1 y2 : Int32) (g : Nat → Nat → Int32) : q_sem (d + 1) mX10_isSeen 44 [.ref w, .int x1, .int x2] [.int y0, .int y1, .int y2] (q_K o g) = (q_sem d mX3_reaches 0 [.int y2, .int y1, .int y0, .retAddr 0, .retAddr 0] [] (q_K o g)).bind (fun r => q_sem (d + 1) mX10_isSeen 47 [.ref w, .int x1, .int x2] (r.1.toList ++ []) r.2) := by
  exact K_calS (d := d) (Y := mX10_isSeen) (Z := mX3_reaches) (vs := [.int y2, .int y1, .int y0]) (rest := []) (la := [.int y2, .int y1, .int y0, .retAddr 0, .retAddr 0]) dX10_isSeen_44 rfl rfl rfl rfl (Nat.le_of_ble_eq_true rfl) rfl (Nat.le_of_ble_eq_true rfl)
theorem B_X10_isSeen_47 {o : q_H} {w : Nat} (hw : q_W w) (d : Nat) (x1 x2 y0 : Int32) (g : Nat → Nat → Int32) : q_sem (d) mX10_isSeen 47 [.ref w, .int x1, .int x2] [.int y0] (q_K o g) = (if y0 = 0 then q_sem (d) mX10_isSeen 2 [.ref w, .int x1, .int (x2 + 1)] [] (q_K o g) else some (some (.int 1), q_K o g)) := by
  refine (q_blk (Y := mX10_isSeen) (q_dcC dX10_isSeen_47 q_dcN) (show _ = some ((if q_cc .eq y0 0 = true then 52 else 50), [.ref w, .int x1, .int x2], []) from rfl)).trans ?_
  by_cases c1 : y0 = 0
  · rw [if_pos (show q_cc .eq y0 0 = true from decide_eq_true c1)]
    refine Eq.trans ?_ (if_pos c1).symm
    refine (q_blk (Y := mX10_isSeen) (q_dcC dX10_isSeen_52 (q_dcC dX10_isSeen_55 q_dcN)) (show _ = some (2, [.ref w, .int x1, .int (x2 + 1)], []) from rfl)).trans ?_
    rfl
  · rw [if_neg (show ¬ q_cc .eq y0 0 = true from fun z => c1 (of_decide_eq_true z))]
    refine Eq.trans ?_ (if_neg c1).symm
    refine (q_blk (Y := mX10_isSeen) (q_dcC dX10_isSeen_50 q_dcN) (show _ = some (51, [.ref w, .int x1, .int x2], [.int 1]) from rfl)).trans ?_
    exact k_iret (Y := mX10_isSeen) dX10_isSeen_51 rfl
theorem B_X10_isHeard_0 {o : q_H} {w : Nat} (hw : q_W w) (d : Nat) (x1 : Int32) (g : Nat → Nat → Int32) : q_sem (d) mX10_isHeard 0 [.ref w, .int x1, .retAddr 0] [] (q_K o g) = q_sem (d) mX10_isHeard 2 [.ref w, .int x1, .int 0] [] (q_K o g) := by
  refine (q_blk (Y := mX10_isHeard) (q_dcC dX10_isHeard_0 (q_dcC dX10_isHeard_1 q_dcN)) (show _ = some (2, [.ref w, .int x1, .int 0], []) from rfl)).trans ?_
  rfl
theorem B_X10_isHeard_2 {o : q_H} {w : Nat} (hw : q_W w) (d : Nat) (x1 x2 : Int32) (g : Nat → Nat → Int32) : q_sem (d + 1) mX10_isHeard 2 [.ref w, .int x1, .int x2] [] (q_K o g) = (q_sem d mX7_size 0 [.ref (w + 3)] [] (q_K o g)).bind (fun r => q_sem (d + 1) mX10_isHeard 10 [.ref w, .int x1, .int x2] (r.1.toList ++ [.int x2]) r.2) := by
  refine (q_blk (Y := mX10_isHeard) (q_dcC dX10_isHeard_2 (q_dcC dX10_isHeard_3 q_dcN)) (show _ = some (4, [.ref w, .int x1, .int x2], [.ref w, .int x2]) from rfl)).trans ?_
  refine (k_getr (Y := mX10_isHeard) dX10_isHeard_4 rfl rfl (W_is0 hw) (by decide) (W_r0_1 hw)).trans ?_
  exact K_calV (d := d) (Y := mX10_isHeard) (Z := mX7_size) (vs := []) (rest := [.int x2]) (la := [.ref (w + 3)]) dX10_isHeard_7 rfl rfl rfl rfl (W_is3 hw) (Nat.le_of_ble_eq_true rfl) rfl (Nat.le_of_ble_eq_true rfl)
theorem B_X10_isHeard_10 {o : q_H} {w : Nat} (hw : q_W w) (d : Nat) (x1 x2 y0 y1 : Int32) (g : Nat → Nat → Int32) : q_sem (d + 1) mX10_isHeard 10 [.ref w, .int x1, .int x2] [.int y0, .int y1] (q_K o g) = (if y0 ≤ y1 then some (some (.int 0), q_K o g) else (q_sem d mX7_get 0 [.ref (w + 3), .int x2, .int 0] [] (q_K o g)).bind (fun r => q_sem (d + 1) mX10_isHeard 23 [.ref w, .int x1, .int x2] (r.1.toList ++ [.int x1]) r.2)) := by
  refine (q_blk (Y := mX10_isHeard) (q_dcC dX10_isHeard_10 q_dcN) (show _ = some ((if q_cc .ge y1 y0 = true then 51 else 13), [.ref w, .int x1, .int x2], []) from rfl)).trans ?_
  by_cases c1 : y0 ≤ y1
  · rw [if_pos (show q_cc .ge y1 y0 = true from decide_eq_true c1)]
    refine Eq.trans ?_ (if_pos c1).symm
    refine (q_blk (Y := mX10_isHeard) (q_dcC dX10_isHeard_51 q_dcN) (show _ = some (52, [.ref w, .int x1, .int x2], [.int 0]) from rfl)).trans ?_
    exact k_iret (Y := mX10_isHeard) dX10_isHeard_52 rfl
  · rw [if_neg (show ¬ q_cc .ge y1 y0 = true from fun z => c1 (of_decide_eq_true z))]
    refine Eq.trans ?_ (if_neg c1).symm
    refine (q_blk (Y := mX10_isHeard) (q_dcC dX10_isHeard_13 (q_dcC dX10_isHeard_14 q_dcN)) (show _ = some (15, [.ref w, .int x1, .int x2], [.ref w, .int x1]) from rfl)).trans ?_
    refine (k_getr (Y := mX10_isHeard) dX10_isHeard_15 rfl rfl (W_is0 hw) (by decide) (W_r0_1 hw)).trans ?_
    refine (q_blk (Y := mX10_isHeard) (q_dcC dX10_isHeard_18 (q_dcC dX10_isHeard_19 q_dcN)) (show _ = some (20, [.ref w, .int x1, .int x2], [.int 0, .int x2, .ref (w + 3), .int x1]) from rfl)).trans ?_
    exact K_calV (d := d) (Y := mX10_isHeard) (Z := mX7_get) (vs := [.int x2, .int 0]) (rest := [.int x1]) (la := [.ref (w + 3), .int x2, .int 0]) dX10_isHeard_20 rfl rfl rfl rfl (W_is3 hw) (Nat.le_of_ble_eq_true rfl) rfl (Nat.le_of_ble_eq_true rfl)
theorem B_X10_isHeard_23 {o : q_H} {w : Nat} (hw : q_W w) (d : Nat) (x1 x2 y0 y1 : Int32) (g : Nat → Nat → Int32) : q_sem (d + 1) mX10_isHeard 23 [.ref w, .int x1, .int x2] [.int y0, .int y1] (q_K o g) = (q_sem d mX3_apart 0 [.int y1, .int y0] [] (q_K o g)).bind (fun r => q_sem (d + 1) mX10_isHeard 26 [.ref w, .int x1, .int x2] (r.1.toList ++ []) r.2) := by
  exact K_calS (d := d) (Y := mX10_isHeard) (Z := mX3_apart) (vs := [.int y1, .int y0]) (rest := []) (la := [.int y1, .int y0]) dX10_isHeard_23 rfl rfl rfl rfl (Nat.le_of_ble_eq_true rfl) rfl (Nat.le_of_ble_eq_true rfl)
theorem B_X10_isHeard_26 {o : q_H} {w : Nat} (hw : q_W w) (d : Nat) (x1 x2 y0 : Int32) (g : Nat → Nat → Int32) : q_sem (d + 1) mX10_isHeard 26 [.ref w, .int x1, .int x2] [.int y0] (q_K o g) = (q_sem d mX7_get 0 [.ref (w + 3), .int x2, .int 1] [] (q_K o g)).bind (fun r => q_sem (d + 1) mX10_isHeard 35 [.ref w, .int x1, .int x2] (r.1.toList ++ [.int y0]) r.2) := by
  refine (q_blk (Y := mX10_isHeard) (q_dcC dX10_isHeard_26 q_dcN) (show _ = some (27, [.ref w, .int x1, .int x2], [.ref w, .int y0]) from rfl)).trans ?_
  refine (k_getr (Y := mX10_isHeard) dX10_isHeard_27 rfl rfl (W_is0 hw) (by decide) (W_r0_1 hw)).trans ?_
  refine (q_blk (Y := mX10_isHeard) (q_dcC dX10_isHeard_30 (q_dcC dX10_isHeard_31 q_dcN)) (show _ = some (32, [.ref w, .int x1, .int x2], [.int 1, .int x2, .ref (w + 3), .int y0]) from rfl)).trans ?_
  exact K_calV (d := d) (Y := mX10_isHeard) (Z := mX7_get) (vs := [.int x2, .int 1]) (rest := [.int y0]) (la := [.ref (w + 3), .int x2, .int 1]) dX10_isHeard_32 rfl rfl rfl rfl (W_is3 hw) (Nat.le_of_ble_eq_true rfl) rfl (Nat.le_of_ble_eq_true rfl)
theorem B_X10_isHeard_35 {o : q_H} {w : Nat} (hw : q_W w) (d : Nat) (x1 x2 y0 y1 : Int32) (g : Nat → Nat → Int32) : q_sem (d) mX10_isHeard 35 [.ref w, .int x1, .int x2] [.int y0, .int y1] (q_K o g) = (if (y0 - (g w 9)) < y1 then q_sem (d) mX10_isHeard 2 [.ref w, .int x1, .int (x2 + 1)] [] (q_K o g) else some (some (.int 1), q_K o g)) := by
  refine (q_blk (Y := mX10_isHeard) (q_dcC dX10_isHeard_35 q_dcN) (show _ = some (36, [.ref w, .int x1, .int x2], [.ref w, .int y0, .int y1]) from rfl)).trans ?_
  refine (k_geti (Y := mX10_isHeard) dX10_isHeard_36 rfl rfl (W_is0 hw) (by decide) (W_n0_9 hw)).trans ?_
  refine (q_blk (Y := mX10_isHeard) (q_dcC dX10_isHeard_39 (q_dcC dX10_isHeard_40 q_dcN)) (show _ = some ((if q_cc .gt y1 (y0 - (g w 9)) = true then 45 else 43), [.ref w, .int x1, .int x2], []) from rfl)).trans ?_
  by_cases c1 : (y0 - (g w 9)) < y1
  · rw [if_pos (show q_cc .gt y1 (y0 - (g w 9)) = true from decide_eq_true c1)]
    refine Eq.trans ?_ (if_pos c1).symm
    refine (q_blk (Y := mX10_isHeard) (q_dcC dX10_isHeard_45 (q_dcC dX10_isHeard_48 q_dcN)) (show _ = some (2, [.ref w, .int x1, .int (x2 + 1)], []) from rfl)).trans ?_
    rfl
  · rw [if_neg (show ¬ q_cc .gt y1 (y0 - (g w 9)) = true from fun z => c1 (of_decide_eq_true z))]
    refine Eq.trans ?_ (if_neg c1).symm
    refine (q_blk (Y := mX10_isHeard) (q_dcC dX10_isHeard_43 q_dcN) (show _ = some (44, [.ref w, .int x1, .int x2], [.int 1]) from rfl)).trans ?_
    exact k_iret (Y := mX10_isHeard) dX10_isHeard_44 rfl
theorem B_X10_isWatched_0 {o : q_H} {w : Nat} (hw : q_W w) (d : Nat) (x1 : Int32) (g : Nat → Nat → Int32) : q_sem (d + 1) mX10_isWatched 0 [.ref w, .int x1] [] (q_K o g) = (q_sem d mX10_isSeen 0 [.ref w, .int x1, .retAddr 0] [] (q_K o g)).bind (fun r => q_sem (d + 1) mX10_isWatched 5 [.ref w, .int x1] (r.1.toList ++ []) r.2) := by
  refine (q_blk (Y := mX10_isWatched) (q_dcC dX10_isWatched_0 (q_dcC dX10_isWatched_1 q_dcN)) (show _ = some (2, [.ref w, .int x1], [.int x1, .ref w]) from rfl)).trans ?_
  exact K_calV (d := d) (Y := mX10_isWatched) (Z := mX10_isSeen) (vs := [.int x1]) (rest := []) (la := [.ref w, .int x1, .retAddr 0]) dX10_isWatched_2 rfl rfl rfl rfl (W_is0 hw) (Nat.le_of_ble_eq_true rfl) rfl (Nat.le_of_ble_eq_true rfl)
theorem B_X10_isWatched_5 {o : q_H} {w : Nat} (hw : q_W w) (d : Nat) (x1 y0 : Int32) (g : Nat → Nat → Int32) : q_sem (d + 1) mX10_isWatched 5 [.ref w, .int x1] [.int y0] (q_K o g) = (if y0 = 0 then (q_sem d mX10_isHeard 0 [.ref w, .int x1, .retAddr 0] [] (q_K o g)).bind (fun r => q_sem (d + 1) mX10_isWatched 13 [.ref w, .int x1] (r.1.toList ++ []) r.2) else some (some (.int 1), q_K o g)) := by
  refine (q_blk (Y := mX10_isWatched) (q_dcC dX10_isWatched_5 q_dcN) (show _ = some ((if q_cc .ne y0 0 = true then 16 else 8), [.ref w, .int x1], []) from rfl)).trans ?_
  by_cases c1 : y0 = 0
  · rw [if_neg (show ¬ q_cc .ne y0 0 = true from fun z => (of_decide_eq_true z : ¬ y0 = 0) c1)]
    refine Eq.trans ?_ (if_pos c1).symm
    refine (q_blk (Y := mX10_isWatched) (q_dcC dX10_isWatched_8 (q_dcC dX10_isWatched_9 q_dcN)) (show _ = some (10, [.ref w, .int x1], [.int x1, .ref w]) from rfl)).trans ?_
    exact K_calV (d := d) (Y := mX10_isWatched) (Z := mX10_isHeard) (vs := [.int x1]) (rest := []) (la := [.ref w, .int x1, .retAddr 0]) dX10_isWatched_10 rfl rfl rfl rfl (W_is0 hw) (Nat.le_of_ble_eq_true rfl) rfl (Nat.le_of_ble_eq_true rfl)
  · rw [if_pos (show q_cc .ne y0 0 = true from decide_eq_true c1)]
    refine Eq.trans ?_ (if_neg c1).symm
    refine (q_blk (Y := mX10_isWatched) (q_dcC dX10_isWatched_16 (q_dcC dX10_isWatched_17 q_dcN)) (show _ = some (21, [.ref w, .int x1], [.int 1]) from rfl)).trans ?_
    exact k_iret (Y := mX10_isWatched) dX10_isWatched_21 rfl
theorem B_X10_isWatched_13 {o : q_H} {w : Nat} (hw : q_W w) (d : Nat) (x1 y0 : Int32) (g : Nat → Nat → Int32) : q_sem (d) mX10_isWatched 13 [.ref w, .int x1] [.int y0] (q_K o g) = (if y0 = 0 then some (some (.int 0), q_K o g) else some (some (.int 1), q_K o g)) := by
  refine (q_blk (Y := mX10_isWatched) (q_dcC dX10_isWatched_13 q_dcN) (show _ = some ((if q_cc .eq y0 0 = true then 20 else 16), [.ref w, .int x1], []) from rfl)).trans ?_
  by_cases c1 : y0 = 0
  · rw [if_pos (show q_cc .eq y0 0 = true from decide_eq_true c1)]
    refine Eq.trans ?_ (if_pos c1).symm
    refine (q_blk (Y := mX10_isWatched) (q_dcC dX10_isWatched_20 q_dcN) (show _ = some (21, [.ref w, .int x1], [.int 0]) from rfl)).trans ?_
    exact k_iret (Y := mX10_isWatched) dX10_isWatched_21 rfl
  · rw [if_neg (show ¬ q_cc .eq y0 0 = true from fun z => c1 (of_decide_eq_true z))]
    refine Eq.trans ?_ (if_neg c1).symm
    refine (q_blk (Y := mX10_isWatched) (q_dcC dX10_isWatched_16 (q_dcC dX10_isWatched_17 q_dcN)) (show _ = some (21, [.ref w, .int x1], [.int 1]) from rfl)).trans ?_
    exact k_iret (Y := mX10_isWatched) dX10_isWatched_21 rfl
theorem B_X10_cellsSeen_0 {o : q_H} {w : Nat} (hw : q_W w) (d : Nat) (g : Nat → Nat → Int32) : q_sem (d) mX10_cellsSeen 0 [.ref w, .retAddr 0, .retAddr 0] [] (q_K o g) = q_sem (d) mX10_cellsSeen 4 [.ref w, .int 0, .int 0] [] (q_K o g) := by
  refine (q_blk (Y := mX10_cellsSeen) (q_dcC dX10_cellsSeen_0 (q_dcC dX10_cellsSeen_1 (q_dcC dX10_cellsSeen_2 (q_dcC dX10_cellsSeen_3 q_dcN)))) (show _ = some (4, [.ref w, .int 0, .int 0], []) from rfl)).trans ?_
  rfl
theorem B_X10_cellsSeen_4 {o : q_H} {w : Nat} (hw : q_W w) (d : Nat) (x1 x2 : Int32) (g : Nat → Nat → Int32) : q_sem (d + 1) mX10_cellsSeen 4 [.ref w, .int x1, .int x2] [] (q_K o g) = (if 256 ≤ x2 then some (some (.int x1), q_K o g) else (q_sem d mX10_isSeen 0 [.ref w, .int x2, .retAddr 0] [] (q_K o g)).bind (fun r => q_sem (d + 1) mX10_cellsSeen 17 [.ref w, .int x1, .int x2] (r.1.toList ++ [.int x1]) r.2)) := by
  refine (q_blk (Y := mX10_cellsSeen) (q_dcC dX10_cellsSeen_4 (q_dcC dX10_cellsSeen_5 (q_dcC dX10_cellsSeen_8 q_dcN))) (show _ = some ((if q_cc .ge x2 256 = true then 33 else 11), [.ref w, .int x1, .int x2], []) from rfl)).trans ?_
  by_cases c1 : 256 ≤ x2
  · rw [if_pos (show q_cc .ge x2 256 = true from decide_eq_true c1)]
    refine Eq.trans ?_ (if_pos c1).symm
    refine (q_blk (Y := mX10_cellsSeen) (q_dcC dX10_cellsSeen_33 q_dcN) (show _ = some (34, [.ref w, .int x1, .int x2], [.int x1]) from rfl)).trans ?_
    exact k_iret (Y := mX10_cellsSeen) dX10_cellsSeen_34 rfl
  · rw [if_neg (show ¬ q_cc .ge x2 256 = true from fun z => c1 (of_decide_eq_true z))]
    refine Eq.trans ?_ (if_neg c1).symm
    refine (q_blk (Y := mX10_cellsSeen) (q_dcC dX10_cellsSeen_11 (q_dcC dX10_cellsSeen_12 (q_dcC dX10_cellsSeen_13 q_dcN))) (show _ = some (14, [.ref w, .int x1, .int x2], [.int x2, .ref w, .int x1]) from rfl)).trans ?_
    exact K_calV (d := d) (Y := mX10_cellsSeen) (Z := mX10_isSeen) (vs := [.int x2]) (rest := [.int x1]) (la := [.ref w, .int x2, .retAddr 0]) dX10_cellsSeen_14 rfl rfl rfl rfl (W_is0 hw) (Nat.le_of_ble_eq_true rfl) rfl (Nat.le_of_ble_eq_true rfl)
theorem B_X10_cellsSeen_17 {o : q_H} {w : Nat} (hw : q_W w) (d : Nat) (x1 x2 y0 y1 : Int32) (g : Nat → Nat → Int32) : q_sem (d) mX10_cellsSeen 17 [.ref w, .int x1, .int x2] [.int y0, .int y1] (q_K o g) = (if y0 = 0 then q_sem (d) mX10_cellsSeen 4 [.ref w, .int (y1 + 0), .int (x2 + 1)] [] (q_K o g) else q_sem (d) mX10_cellsSeen 4 [.ref w, .int (y1 + 1), .int (x2 + 1)] [] (q_K o g)) := by
  refine (q_blk (Y := mX10_cellsSeen) (q_dcC dX10_cellsSeen_17 q_dcN) (show _ = some ((if q_cc .eq y0 0 = true then 24 else 20), [.ref w, .int x1, .int x2], [.int y1]) from rfl)).trans ?_
  by_cases c1 : y0 = 0
  · rw [if_pos (show q_cc .eq y0 0 = true from decide_eq_true c1)]
    refine Eq.trans ?_ (if_pos c1).symm
    refine (q_blk (Y := mX10_cellsSeen) (q_dcC dX10_cellsSeen_24 (q_dcC dX10_cellsSeen_25 (q_dcC dX10_cellsSeen_26 (q_dcC dX10_cellsSeen_27 (q_dcC dX10_cellsSeen_30 q_dcN))))) (show _ = some (4, [.ref w, .int (y1 + 0), .int (x2 + 1)], []) from rfl)).trans ?_
    rfl
  · rw [if_neg (show ¬ q_cc .eq y0 0 = true from fun z => c1 (of_decide_eq_true z))]
    refine Eq.trans ?_ (if_neg c1).symm
    refine (q_blk (Y := mX10_cellsSeen) (q_dcC dX10_cellsSeen_20 (q_dcC dX10_cellsSeen_21 q_dcN)) (show _ = some (25, [.ref w, .int x1, .int x2], [.int 1, .int y1]) from rfl)).trans ?_
    refine (q_blk (Y := mX10_cellsSeen) (q_dcC dX10_cellsSeen_25 (q_dcC dX10_cellsSeen_26 (q_dcC dX10_cellsSeen_27 (q_dcC dX10_cellsSeen_30 q_dcN)))) (show _ = some (4, [.ref w, .int (y1 + 1), .int (x2 + 1)], []) from rfl)).trans ?_
    rfl
theorem B_X10_addPlot_0 {o : q_H} {w : Nat} (hw : q_W w) (d : Nat) (x1 x2 : Int32) (g : Nat → Nat → Int32) : q_sem (d + 1) mX10_addPlot 0 [.ref w, .int x1, .int x2, .retAddr 0] [] (q_K o g) = (q_sem d mX7_add 0 [.ref (w + 5), .int x1, .retAddr 0] [] (q_K o g)).bind (fun r => q_sem (d + 1) mX10_addPlot 8 [.ref w, .int x1, .int x2, .retAddr 0] (r.1.toList ++ []) r.2) := by
  refine (q_blk (Y := mX10_addPlot) (q_dcC dX10_addPlot_0 q_dcN) (show _ = some (1, [.ref w, .int x1, .int x2, .retAddr 0], [.ref w]) from rfl)).trans ?_
  refine (k_getr (Y := mX10_addPlot) dX10_addPlot_1 rfl rfl (W_is0 hw) (by decide) (W_r0_2 hw)).trans ?_
  refine (q_blk (Y := mX10_addPlot) (q_dcC dX10_addPlot_4 q_dcN) (show _ = some (5, [.ref w, .int x1, .int x2, .retAddr 0], [.int x1, .ref (w + 5)]) from rfl)).trans ?_
  exact K_calV (d := d) (Y := mX10_addPlot) (Z := mX7_add) (vs := [.int x1]) (rest := []) (la := [.ref (w + 5), .int x1, .retAddr 0]) dX10_addPlot_5 rfl rfl rfl rfl (W_is5 hw) (Nat.le_of_ble_eq_true rfl) rfl (Nat.le_of_ble_eq_true rfl)
theorem B_X10_addPlot_8 {o : q_H} {w : Nat} (hw : q_W w) (d : Nat) (x1 x2 y0 : Int32) (g : Nat → Nat → Int32) : q_sem (d + 1) mX10_addPlot 8 [.ref w, .int x1, .int x2, .retAddr 0] [.int y0] (q_K o g) = (q_sem d mX7_write 0 [.ref (w + 5), .int y0, .int 1, .int x2] [] (q_K o g)).bind (fun r => q_sem (d + 1) mX10_addPlot 19 [.ref w, .int x1, .int x2, .int y0] (r.1.toList ++ []) r.2) := by
  refine (q_blk (Y := mX10_addPlot) (q_dcC dX10_addPlot_8 (q_dcC dX10_addPlot_9 q_dcN)) (show _ = some (10, [.ref w, .int x1, .int x2, .int y0], [.ref w]) from rfl)).trans ?_
  refine (k_getr (Y := mX10_addPlot) dX10_addPlot_10 rfl rfl (W_is0 hw) (by decide) (W_r0_2 hw)).trans ?_
  refine (q_blk (Y := mX10_addPlot) (q_dcC dX10_addPlot_13 (q_dcC dX10_addPlot_14 (q_dcC dX10_addPlot_15 q_dcN))) (show _ = some (16, [.ref w, .int x1, .int x2, .int y0], [.int x2, .int 1, .int y0, .ref (w + 5)]) from rfl)).trans ?_
  exact K_calV (d := d) (Y := mX10_addPlot) (Z := mX7_write) (vs := [.int y0, .int 1, .int x2]) (rest := []) (la := [.ref (w + 5), .int y0, .int 1, .int x2]) dX10_addPlot_16 rfl rfl rfl rfl (W_is5 hw) (Nat.le_of_ble_eq_true rfl) rfl (Nat.le_of_ble_eq_true rfl)
theorem B_X10_addPlot_19 {o : q_H} {w : Nat} (hw : q_W w) (d : Nat) (x1 x2 x3 : Int32) (g : Nat → Nat → Int32) : q_sem (d + 1) mX10_addPlot 19 [.ref w, .int x1, .int x2, .int x3] [] (q_K o g) = (q_sem d mX7_write 0 [.ref (w + 5), .int x3, .int 2, .int (g w 8)] [] (q_K o g)).bind (fun r => q_sem (d + 1) mX10_addPlot 32 [.ref w, .int x1, .int x2, .int x3] (r.1.toList ++ []) r.2) := by
  refine (q_blk (Y := mX10_addPlot) (q_dcC dX10_addPlot_19 q_dcN) (show _ = some (20, [.ref w, .int x1, .int x2, .int x3], [.ref w]) from rfl)).trans ?_
  refine (k_getr (Y := mX10_addPlot) dX10_addPlot_20 rfl rfl (W_is0 hw) (by decide) (W_r0_2 hw)).trans ?_
  refine (q_blk (Y := mX10_addPlot) (q_dcC dX10_addPlot_23 (q_dcC dX10_addPlot_24 (q_dcC dX10_addPlot_25 q_dcN))) (show _ = some (26, [.ref w, .int x1, .int x2, .int x3], [.ref w, .int 2, .int x3, .ref (w + 5)]) from rfl)).trans ?_
  refine (k_geti (Y := mX10_addPlot) dX10_addPlot_26 rfl rfl (W_is0 hw) (by decide) (W_n0_8 hw)).trans ?_
  exact K_calV (d := d) (Y := mX10_addPlot) (Z := mX7_write) (vs := [.int x3, .int 2, .int (g w 8)]) (rest := []) (la := [.ref (w + 5), .int x3, .int 2, .int (g w 8)]) dX10_addPlot_29 rfl rfl rfl rfl (W_is5 hw) (Nat.le_of_ble_eq_true rfl) rfl (Nat.le_of_ble_eq_true rfl)
theorem B_X10_addPlot_32 {o : q_H} {w : Nat} (hw : q_W w) (d : Nat) (x1 x2 x3 : Int32) (g : Nat → Nat → Int32) : q_sem (d) mX10_addPlot 32 [.ref w, .int x1, .int x2, .int x3] [] (q_K o g) = some (some (.int x3), q_K o g) := by
  refine (q_blk (Y := mX10_addPlot) (q_dcC dX10_addPlot_32 q_dcN) (show _ = some (33, [.ref w, .int x1, .int x2, .int x3], [.int x3]) from rfl)).trans ?_
  exact k_iret (Y := mX10_addPlot) dX10_addPlot_33 rfl
theorem B_X10_mayBeFollowed_0 {o : q_H} {w : Nat} (hw : q_W w) (d : Nat) (x1 x2 : Int32) (g : Nat → Nat → Int32) : q_sem (d + 1) mX10_mayBeFollowed 0 [.ref w, .int x1, .int x2, .retAddr 0] [] (q_K o g) = (q_sem d mX7_get 0 [.ref (w + 5), .int x2, .int 2] [] (q_K o g)).bind (fun r => q_sem (d + 1) mX10_mayBeFollowed 9 [.ref w, .int x1, .int x2, .retAddr 0] (r.1.toList ++ []) r.2) := by
  refine (q_blk (Y := mX10_mayBeFollowed) (q_dcC dX10_mayBeFollowed_0 q_dcN) (show _ = some (1, [.ref w, .int x1, .int x2, .retAddr 0], [.ref w]) from rfl)).trans ?_
  refine (k_getr (Y := mX10_mayBeFollowed) dX10_mayBeFollowed_1 rfl rfl (W_is0 hw) (by decide) (W_r0_2 hw)).trans ?_
  refine (q_blk (Y := mX10_mayBeFollowed) (q_dcC dX10_mayBeFollowed_4 (q_dcC dX10_mayBeFollowed_5 q_dcN)) (show _ = some (6, [.ref w, .int x1, .int x2, .retAddr 0], [.int 2, .int x2, .ref (w + 5)]) from rfl)).trans ?_
  exact K_calV (d := d) (Y := mX10_mayBeFollowed) (Z := mX7_get) (vs := [.int x2, .int 2]) (rest := []) (la := [.ref (w + 5), .int x2, .int 2]) dX10_mayBeFollowed_6 rfl rfl rfl rfl (W_is5 hw) (Nat.le_of_ble_eq_true rfl) rfl (Nat.le_of_ble_eq_true rfl)
theorem B_X10_mayBeFollowed_9 {o : q_H} {w : Nat} (hw : q_W w) (d : Nat) (x1 x2 y0 : Int32) (g : Nat → Nat → Int32) : q_sem (d + 1) mX10_mayBeFollowed 9 [.ref w, .int x1, .int x2, .retAddr 0] [.int y0] (q_K o g) = (q_sem d mX7_get 0 [.ref (w + 5), .int x1, .int 2] [] (q_K o g)).bind (fun r => q_sem (d + 1) mX10_mayBeFollowed 18 [.ref w, .int x1, .int x2, .retAddr 0] (r.1.toList ++ [.int y0]) r.2) := by
  refine (q_blk (Y := mX10_mayBeFollowed) (q_dcC dX10_mayBeFollowed_9 q_dcN) (show _ = some (10, [.ref w, .int x1, .int x2, .retAddr 0], [.ref w, .int y0]) from rfl)).trans ?_
  refine (k_getr (Y := mX10_mayBeFollowed) dX10_mayBeFollowed_10 rfl rfl (W_is0 hw) (by decide) (W_r0_2 hw)).trans ?_
  refine (q_blk (Y := mX10_mayBeFollowed) (q_dcC dX10_mayBeFollowed_13 (q_dcC dX10_mayBeFollowed_14 q_dcN)) (show _ = some (15, [.ref w, .int x1, .int x2, .retAddr 0], [.int 2, .int x1, .ref (w + 5), .int y0]) from rfl)).trans ?_
  exact K_calV (d := d) (Y := mX10_mayBeFollowed) (Z := mX7_get) (vs := [.int x1, .int 2]) (rest := [.int y0]) (la := [.ref (w + 5), .int x1, .int 2]) dX10_mayBeFollowed_15 rfl rfl rfl rfl (W_is5 hw) (Nat.le_of_ble_eq_true rfl) rfl (Nat.le_of_ble_eq_true rfl)
theorem B_X10_mayBeFollowed_18 {o : q_H} {w : Nat} (hw : q_W w) (d : Nat) (x1 x2 y0 y1 : Int32) (g : Nat → Nat → Int32) : q_sem (d + 1) mX10_mayBeFollowed 18 [.ref w, .int x1, .int x2, .retAddr 0] [.int y0, .int y1] (q_K o g) = (if (y1 - y0) ≤ 0 then some (some (.int 0), q_K o g) else (q_sem d mX10_plotsApart 0 [.ref w, .int x1, .int x2] [] (q_K o g)).bind (fun r => q_sem (d + 1) mX10_mayBeFollowed 30 [.ref w, .int x1, .int x2, .int (y1 - y0)] (r.1.toList ++ []) r.2)) := by
  refine (q_blk (Y := mX10_mayBeFollowed) (q_dcC dX10_mayBeFollowed_18 (q_dcC dX10_mayBeFollowed_19 (q_dcC dX10_mayBeFollowed_20 (q_dcC dX10_mayBeFollowed_21 q_dcN)))) (show _ = some ((if q_cc .le (y1 - y0) 0 = true then 43 else 24), [.ref w, .int x1, .int x2, .int (y1 - y0)], []) from rfl)).trans ?_
  by_cases c1 : (y1 - y0) ≤ 0
  · rw [if_pos (show q_cc .le (y1 - y0) 0 = true from decide_eq_true c1)]
    refine Eq.trans ?_ (if_pos c1).symm
    refine (q_blk (Y := mX10_mayBeFollowed) (q_dcC dX10_mayBeFollowed_43 q_dcN) (show _ = some (44, [.ref w, .int x1, .int x2, .int (y1 - y0)], [.int 0]) from rfl)).trans ?_
    exact k_iret (Y := mX10_mayBeFollowed) dX10_mayBeFollowed_44 rfl
  · rw [if_neg (show ¬ q_cc .le (y1 - y0) 0 = true from fun z => c1 (of_decide_eq_true z))]
    refine Eq.trans ?_ (if_neg c1).symm
    refine (q_blk (Y := mX10_mayBeFollowed) (q_dcC dX10_mayBeFollowed_24 (q_dcC dX10_mayBeFollowed_25 (q_dcC dX10_mayBeFollowed_26 q_dcN))) (show _ = some (27, [.ref w, .int x1, .int x2, .int (y1 - y0)], [.int x2, .int x1, .ref w]) from rfl)).trans ?_
    exact K_calV (d := d) (Y := mX10_mayBeFollowed) (Z := mX10_plotsApart) (vs := [.int x1, .int x2]) (rest := []) (la := [.ref w, .int x1, .int x2]) dX10_mayBeFollowed_27 rfl rfl rfl rfl (W_is0 hw) (Nat.le_of_ble_eq_true rfl) rfl (Nat.le_of_ble_eq_true rfl)
theorem B_X10_mayBeFollowed_30 {o : q_H} {w : Nat} (hw : q_W w) (d : Nat) (x1 x2 x3 y0 : Int32) (g : Nat → Nat → Int32) : q_sem (d) mX10_mayBeFollowed 30 [.ref w, .int x1, .int x2, .int x3] [.int y0] (q_K o g) = (if ((g w 10) * x3) < y0 then some (some (.int 0), q_K o g) else some (some (.int 1), q_K o g)) := by
  refine (q_blk (Y := mX10_mayBeFollowed) (q_dcC dX10_mayBeFollowed_30 q_dcN) (show _ = some (31, [.ref w, .int x1, .int x2, .int x3], [.ref w, .int y0]) from rfl)).trans ?_
  refine (k_geti (Y := mX10_mayBeFollowed) dX10_mayBeFollowed_31 rfl rfl (W_is0 hw) (by decide) (W_n0_10 hw)).trans ?_
  refine (q_blk (Y := mX10_mayBeFollowed) (q_dcC dX10_mayBeFollowed_34 (q_dcC dX10_mayBeFollowed_35 (q_dcC dX10_mayBeFollowed_36 q_dcN))) (show _ = some ((if q_cc .gt y0 ((g w 10) * x3) = true then 43 else 39), [.ref w, .int x1, .int x2, .int x3], []) from rfl)).trans ?_
  by_cases c1 : ((g w 10) * x3) < y0
  · rw [if_pos (show q_cc .gt y0 ((g w 10) * x3) = true from decide_eq_true c1)]
    refine Eq.trans ?_ (if_pos c1).symm
    refine (q_blk (Y := mX10_mayBeFollowed) (q_dcC dX10_mayBeFollowed_43 q_dcN) (show _ = some (44, [.ref w, .int x1, .int x2, .int x3], [.int 0]) from rfl)).trans ?_
    exact k_iret (Y := mX10_mayBeFollowed) dX10_mayBeFollowed_44 rfl
  · rw [if_neg (show ¬ q_cc .gt y0 ((g w 10) * x3) = true from fun z => c1 (of_decide_eq_true z))]
    refine Eq.trans ?_ (if_neg c1).symm
    refine (q_blk (Y := mX10_mayBeFollowed) (q_dcC dX10_mayBeFollowed_39 (q_dcC dX10_mayBeFollowed_40 q_dcN)) (show _ = some (44, [.ref w, .int x1, .int x2, .int x3], [.int 1]) from rfl)).trans ?_
    exact k_iret (Y := mX10_mayBeFollowed) dX10_mayBeFollowed_44 rfl
theorem B_X10_plotsApart_0 {o : q_H} {w : Nat} (hw : q_W w) (d : Nat) (x1 x2 : Int32) (g : Nat → Nat → Int32) : q_sem (d + 1) mX10_plotsApart 0 [.ref w, .int x1, .int x2] [] (q_K o g) = (q_sem d mX7_get 0 [.ref (w + 5), .int x1, .int 0] [] (q_K o g)).bind (fun r => q_sem (d + 1) mX10_plotsApart 9 [.ref w, .int x1, .int x2] (r.1.toList ++ []) r.2) := by
  refine (q_blk (Y := mX10_plotsApart) (q_dcC dX10_plotsApart_0 q_dcN) (show _ = some (1, [.ref w, .int x1, .int x2], [.ref w]) from rfl)).trans ?_
  refine (k_getr (Y := mX10_plotsApart) dX10_plotsApart_1 rfl rfl (W_is0 hw) (by decide) (W_r0_2 hw)).trans ?_
  refine (q_blk (Y := mX10_plotsApart) (q_dcC dX10_plotsApart_4 (q_dcC dX10_plotsApart_5 q_dcN)) (show _ = some (6, [.ref w, .int x1, .int x2], [.int 0, .int x1, .ref (w + 5)]) from rfl)).trans ?_
  exact K_calV (d := d) (Y := mX10_plotsApart) (Z := mX7_get) (vs := [.int x1, .int 0]) (rest := []) (la := [.ref (w + 5), .int x1, .int 0]) dX10_plotsApart_6 rfl rfl rfl rfl (W_is5 hw) (Nat.le_of_ble_eq_true rfl) rfl (Nat.le_of_ble_eq_true rfl)
theorem B_X10_plotsApart_9 {o : q_H} {w : Nat} (hw : q_W w) (d : Nat) (x1 x2 y0 : Int32) (g : Nat → Nat → Int32) : q_sem (d + 1) mX10_plotsApart 9 [.ref w, .int x1, .int x2] [.int y0] (q_K o g) = (q_sem d mX7_get 0 [.ref (w + 5), .int x2, .int 0] [] (q_K o g)).bind (fun r => q_sem (d + 1) mX10_plotsApart 18 [.ref w, .int x1, .int x2] (r.1.toList ++ [.int y0]) r.2) := by
  refine (q_blk (Y := mX10_plotsApart) (q_dcC dX10_plotsApart_9 q_dcN) (show _ = some (10, [.ref w, .int x1, .int x2], [.ref w, .int y0]) from rfl)).trans ?_
  refine (k_getr (Y := mX10_plotsApart) dX10_plotsApart_10 rfl rfl (W_is0 hw) (by decide) (W_r0_2 hw)).trans ?_
  refine (q_blk (Y := mX10_plotsApart) (q_dcC dX10_plotsApart_13 (q_dcC dX10_plotsApart_14 q_dcN)) (show _ = some (15, [.ref w, .int x1, .int x2], [.int 0, .int x2, .ref (w + 5), .int y0]) from rfl)).trans ?_
  exact K_calV (d := d) (Y := mX10_plotsApart) (Z := mX7_get) (vs := [.int x2, .int 0]) (rest := [.int y0]) (la := [.ref (w + 5), .int x2, .int 0]) dX10_plotsApart_15 rfl rfl rfl rfl (W_is5 hw) (Nat.le_of_ble_eq_true rfl) rfl (Nat.le_of_ble_eq_true rfl)
theorem B_X10_plotsApart_18 {o : q_H} {w : Nat} (hw : q_W w) (d : Nat) (x1 x2 y0 y1 : Int32) (g : Nat → Nat → Int32) : q_sem (d + 1) mX10_plotsApart 18 [.ref w, .int x1, .int x2] [.int y0, .int y1] (q_K o g) = (q_sem d mX3_apart 0 [.int y1, .int y0] [] (q_K o g)).bind (fun r => q_sem (d + 1) mX10_plotsApart 21 [.ref w, .int x1, .int x2] (r.1.toList ++ []) r.2) := by
  exact K_calS (d := d) (Y := mX10_plotsApart) (Z := mX3_apart) (vs := [.int y1, .int y0]) (rest := []) (la := [.int y1, .int y0]) dX10_plotsApart_18 rfl rfl rfl rfl (Nat.le_of_ble_eq_true rfl) rfl (Nat.le_of_ble_eq_true rfl)
theorem B_X10_plotsApart_21 {o : q_H} {w : Nat} (hw : q_W w) (d : Nat) (x1 x2 y0 : Int32) (g : Nat → Nat → Int32) : q_sem (d) mX10_plotsApart 21 [.ref w, .int x1, .int x2] [.int y0] (q_K o g) = some (some (.int y0), q_K o g) := by
  exact k_iret (Y := mX10_plotsApart) dX10_plotsApart_21 rfl
theorem B_X10_addFlyer_0 {o : q_H} {w : Nat} (hw : q_W w) (d : Nat) (x1 x2 x3 : Int32) (g : Nat → Nat → Int32) : q_sem (d + 1) mX10_addFlyer 0 [.ref w, .int x1, .int x2, .int x3, .retAddr 0] [] (q_K o g) = (q_sem d mX7_add 0 [.ref (w + 11), .int x1, .retAddr 0] [] (q_K o g)).bind (fun r => q_sem (d + 1) mX10_addFlyer 8 [.ref w, .int x1, .int x2, .int x3, .retAddr 0] (r.1.toList ++ []) r.2) := by
  refine (q_blk (Y := mX10_addFlyer) (q_dcC dX10_addFlyer_0 q_dcN) (show _ = some (1, [.ref w, .int x1, .int x2, .int x3, .retAddr 0], [.ref w]) from rfl)).trans ?_
  refine (k_getr (Y := mX10_addFlyer) dX10_addFlyer_1 rfl rfl (W_is0 hw) (by decide) (W_r0_5 hw)).trans ?_
  refine (q_blk (Y := mX10_addFlyer) (q_dcC dX10_addFlyer_4 q_dcN) (show _ = some (5, [.ref w, .int x1, .int x2, .int x3, .retAddr 0], [.int x1, .ref (w + 11)]) from rfl)).trans ?_
  exact K_calV (d := d) (Y := mX10_addFlyer) (Z := mX7_add) (vs := [.int x1]) (rest := []) (la := [.ref (w + 11), .int x1, .retAddr 0]) dX10_addFlyer_5 rfl rfl rfl rfl (W_is11 hw) (Nat.le_of_ble_eq_true rfl) rfl (Nat.le_of_ble_eq_true rfl)
theorem B_X10_addFlyer_8 {o : q_H} {w : Nat} (hw : q_W w) (d : Nat) (x1 x2 x3 y0 : Int32) (g : Nat → Nat → Int32) : q_sem (d + 1) mX10_addFlyer 8 [.ref w, .int x1, .int x2, .int x3, .retAddr 0] [.int y0] (q_K o g) = (q_sem d mX7_write 0 [.ref (w + 11), .int y0, .int 1, .int x2] [] (q_K o g)).bind (fun r => q_sem (d + 1) mX10_addFlyer 21 [.ref w, .int x1, .int x2, .int x3, .int y0] (r.1.toList ++ []) r.2) := by
  refine (q_blk (Y := mX10_addFlyer) (q_dcC dX10_addFlyer_8 (q_dcC dX10_addFlyer_10 q_dcN)) (show _ = some (11, [.ref w, .int x1, .int x2, .int x3, .int y0], [.ref w]) from rfl)).trans ?_
  refine (k_getr (Y := mX10_addFlyer) dX10_addFlyer_11 rfl rfl (W_is0 hw) (by decide) (W_r0_5 hw)).trans ?_
  refine (q_blk (Y := mX10_addFlyer) (q_dcC dX10_addFlyer_14 (q_dcC dX10_addFlyer_16 (q_dcC dX10_addFlyer_17 q_dcN))) (show _ = some (18, [.ref w, .int x1, .int x2, .int x3, .int y0], [.int x2, .int 1, .int y0, .ref (w + 11)]) from rfl)).trans ?_
  exact K_calV (d := d) (Y := mX10_addFlyer) (Z := mX7_write) (vs := [.int y0, .int 1, .int x2]) (rest := []) (la := [.ref (w + 11), .int y0, .int 1, .int x2]) dX10_addFlyer_18 rfl rfl rfl rfl (W_is11 hw) (Nat.le_of_ble_eq_true rfl) rfl (Nat.le_of_ble_eq_true rfl)
theorem B_X10_addFlyer_21 {o : q_H} {w : Nat} (hw : q_W w) (d : Nat) (x1 x2 x3 x4 : Int32) (g : Nat → Nat → Int32) : q_sem (d + 1) mX10_addFlyer 21 [.ref w, .int x1, .int x2, .int x3, .int x4] [] (q_K o g) = (q_sem d mX7_write 0 [.ref (w + 11), .int x4, .int 5, .int x3] [] (q_K o g)).bind (fun r => q_sem (d + 1) mX10_addFlyer 32 [.ref w, .int x1, .int x2, .int x3, .int x4] (r.1.toList ++ []) r.2) := by
  refine (q_blk (Y := mX10_addFlyer) (q_dcC dX10_addFlyer_21 q_dcN) (show _ = some (22, [.ref w, .int x1, .int x2, .int x3, .int x4], [.ref w]) from rfl)).trans ?_
  refine (k_getr (Y := mX10_addFlyer) dX10_addFlyer_22 rfl rfl (W_is0 hw) (by decide) (W_r0_5 hw)).trans ?_
  refine (q_blk (Y := mX10_addFlyer) (q_dcC dX10_addFlyer_25 (q_dcC dX10_addFlyer_27 (q_dcC dX10_addFlyer_28 q_dcN))) (show _ = some (29, [.ref w, .int x1, .int x2, .int x3, .int x4], [.int x3, .int 5, .int x4, .ref (w + 11)]) from rfl)).trans ?_
  exact K_calV (d := d) (Y := mX10_addFlyer) (Z := mX7_write) (vs := [.int x4, .int 5, .int x3]) (rest := []) (la := [.ref (w + 11), .int x4, .int 5, .int x3]) dX10_addFlyer_29 rfl rfl rfl rfl (W_is11 hw) (Nat.le_of_ble_eq_true rfl) rfl (Nat.le_of_ble_eq_true rfl)
theorem B_X10_addFlyer_32 {o : q_H} {w : Nat} (hw : q_W w) (d : Nat) (x1 x2 x3 x4 : Int32) (g : Nat → Nat → Int32) : q_sem (d + 1) mX10_addFlyer 32 [.ref w, .int x1, .int x2, .int x3, .int x4] [] (q_K o g) = (q_sem d mX7_write 0 [.ref (w + 11), .int x4, .int 6, .int 0] [] (q_K o g)).bind (fun r => q_sem (d + 1) mX10_addFlyer 44 [.ref w, .int x1, .int x2, .int x3, .int x4] (r.1.toList ++ []) r.2) := by
  refine (q_blk (Y := mX10_addFlyer) (q_dcC dX10_addFlyer_32 q_dcN) (show _ = some (33, [.ref w, .int x1, .int x2, .int x3, .int x4], [.ref w]) from rfl)).trans ?_
  refine (k_getr (Y := mX10_addFlyer) dX10_addFlyer_33 rfl rfl (W_is0 hw) (by decide) (W_r0_5 hw)).trans ?_
  refine (q_blk (Y := mX10_addFlyer) (q_dcC dX10_addFlyer_36 (q_dcC dX10_addFlyer_38 (q_dcC dX10_addFlyer_40 q_dcN))) (show _ = some (41, [.ref w, .int x1, .int x2, .int x3, .int x4], [.int 0, .int 6, .int x4, .ref (w + 11)]) from rfl)).trans ?_
  exact K_calV (d := d) (Y := mX10_addFlyer) (Z := mX7_write) (vs := [.int x4, .int 6, .int 0]) (rest := []) (la := [.ref (w + 11), .int x4, .int 6, .int 0]) dX10_addFlyer_41 rfl rfl rfl rfl (W_is11 hw) (Nat.le_of_ble_eq_true rfl) rfl (Nat.le_of_ble_eq_true rfl)
theorem B_X10_addFlyer_44 {o : q_H} {w : Nat} (hw : q_W w) (d : Nat) (x1 x2 x3 x4 : Int32) (g : Nat → Nat → Int32) : q_sem (d + 1) mX10_addFlyer 44 [.ref w, .int x1, .int x2, .int x3, .int x4] [] (q_K o g) = (q_sem d mX7_write 0 [.ref (w + 11), .int x4, .int 7, .int (-1)] [] (q_K o g)).bind (fun r => q_sem (d + 1) mX10_addFlyer 56 [.ref w, .int x1, .int x2, .int x3, .int x4] (r.1.toList ++ []) r.2) := by
  refine (q_blk (Y := mX10_addFlyer) (q_dcC dX10_addFlyer_44 q_dcN) (show _ = some (45, [.ref w, .int x1, .int x2, .int x3, .int x4], [.ref w]) from rfl)).trans ?_
  refine (k_getr (Y := mX10_addFlyer) dX10_addFlyer_45 rfl rfl (W_is0 hw) (by decide) (W_r0_5 hw)).trans ?_
  refine (q_blk (Y := mX10_addFlyer) (q_dcC dX10_addFlyer_48 (q_dcC dX10_addFlyer_50 (q_dcC dX10_addFlyer_52 q_dcN))) (show _ = some (53, [.ref w, .int x1, .int x2, .int x3, .int x4], [.int (-1), .int 7, .int x4, .ref (w + 11)]) from rfl)).trans ?_
  exact K_calV (d := d) (Y := mX10_addFlyer) (Z := mX7_write) (vs := [.int x4, .int 7, .int (-1)]) (rest := []) (la := [.ref (w + 11), .int x4, .int 7, .int (-1)]) dX10_addFlyer_53 rfl rfl rfl rfl (W_is11 hw) (Nat.le_of_ble_eq_true rfl) rfl (Nat.le_of_ble_eq_true rfl)
theorem B_X10_addFlyer_56 {o : q_H} {w : Nat} (hw : q_W w) (d : Nat) (x1 x2 x3 x4 : Int32) (g : Nat → Nat → Int32) : q_sem (d + 1) mX10_addFlyer 56 [.ref w, .int x1, .int x2, .int x3, .int x4] [] (q_K o g) = (q_sem d mX7_write 0 [.ref (w + 11), .int x4, .int 8, .int (-1)] [] (q_K o g)).bind (fun r => q_sem (d + 1) mX10_addFlyer 68 [.ref w, .int x1, .int x2, .int x3, .int x4] (r.1.toList ++ []) r.2) := by
  refine (q_blk (Y := mX10_addFlyer) (q_dcC dX10_addFlyer_56 q_dcN) (show _ = some (57, [.ref w, .int x1, .int x2, .int x3, .int x4], [.ref w]) from rfl)).trans ?_
  refine (k_getr (Y := mX10_addFlyer) dX10_addFlyer_57 rfl rfl (W_is0 hw) (by decide) (W_r0_5 hw)).trans ?_
  refine (q_blk (Y := mX10_addFlyer) (q_dcC dX10_addFlyer_60 (q_dcC dX10_addFlyer_62 (q_dcC dX10_addFlyer_64 q_dcN))) (show _ = some (65, [.ref w, .int x1, .int x2, .int x3, .int x4], [.int (-1), .int 8, .int x4, .ref (w + 11)]) from rfl)).trans ?_
  exact K_calV (d := d) (Y := mX10_addFlyer) (Z := mX7_write) (vs := [.int x4, .int 8, .int (-1)]) (rest := []) (la := [.ref (w + 11), .int x4, .int 8, .int (-1)]) dX10_addFlyer_65 rfl rfl rfl rfl (W_is11 hw) (Nat.le_of_ble_eq_true rfl) rfl (Nat.le_of_ble_eq_true rfl)
theorem B_X10_addFlyer_68 {o : q_H} {w : Nat} (hw : q_W w) (d : Nat) (x1 x2 x3 x4 : Int32) (g : Nat → Nat → Int32) : q_sem (d + 1) mX10_addFlyer 68 [.ref w, .int x1, .int x2, .int x3, .int x4] [] (q_K o g) = (q_sem d mX7_write 0 [.ref (w + 11), .int x4, .int 9, .int (-1)] [] (q_K o g)).bind (fun r => q_sem (d + 1) mX10_addFlyer 80 [.ref w, .int x1, .int x2, .int x3, .int x4] (r.1.toList ++ []) r.2) := by
  refine (q_blk (Y := mX10_addFlyer) (q_dcC dX10_addFlyer_68 q_dcN) (show _ = some (69, [.ref w, .int x1, .int x2, .int x3, .int x4], [.ref w]) from rfl)).trans ?_
  refine (k_getr (Y := mX10_addFlyer) dX10_addFlyer_69 rfl rfl (W_is0 hw) (by decide) (W_r0_5 hw)).trans ?_
  refine (q_blk (Y := mX10_addFlyer) (q_dcC dX10_addFlyer_72 (q_dcC dX10_addFlyer_74 (q_dcC dX10_addFlyer_76 q_dcN))) (show _ = some (77, [.ref w, .int x1, .int x2, .int x3, .int x4], [.int (-1), .int 9, .int x4, .ref (w + 11)]) from rfl)).trans ?_
  exact K_calV (d := d) (Y := mX10_addFlyer) (Z := mX7_write) (vs := [.int x4, .int 9, .int (-1)]) (rest := []) (la := [.ref (w + 11), .int x4, .int 9, .int (-1)]) dX10_addFlyer_77 rfl rfl rfl rfl (W_is11 hw) (Nat.le_of_ble_eq_true rfl) rfl (Nat.le_of_ble_eq_true rfl)
theorem B_X10_addFlyer_80 {o : q_H} {w : Nat} (hw : q_W w) (d : Nat) (x1 x2 x3 x4 : Int32) (g : Nat → Nat → Int32) : q_sem (d) mX10_addFlyer 80 [.ref w, .int x1, .int x2, .int x3, .int x4] [] (q_K o g) = some (some (.int x4), q_K o g) := by
  refine (q_blk (Y := mX10_addFlyer) (q_dcC dX10_addFlyer_80 q_dcN) (show _ = some (82, [.ref w, .int x1, .int x2, .int x3, .int x4], [.int x4]) from rfl)).trans ?_
  exact k_iret (Y := mX10_addFlyer) dX10_addFlyer_82 rfl
theorem B_X10_above_0 {o : q_H} (ho : q_oR o) (d : Nat) (x0 : Int32) (g : Nat → Nat → Int32) : q_sem (d) mX10_above 0 [.int x0] [] (q_K o g) = (if x0 < 0 then some (some (.int (-1)), q_K o g) else (if 6 ≤ x0 then some (some (.int (-1)), q_K o g) else (q_rg x0 6 (fun j3 => some (some (.int (q_way 1 j3)), q_K o g))))) := by
  refine (q_blk (Y := mX10_above) (q_dcC dX10_above_0 (q_dcC dX10_above_1 q_dcN)) (show _ = some ((if q_cc .lt x0 0 = true then 20 else 4), [.int x0], []) from rfl)).trans ?_
  by_cases c1 : x0 < 0
  · rw [if_pos (show q_cc .lt x0 0 = true from decide_eq_true c1)]
    refine Eq.trans ?_ (if_pos c1).symm
    refine (q_blk (Y := mX10_above) (q_dcC dX10_above_20 q_dcN) (show _ = some (21, [.int x0], [.int (-1)]) from rfl)).trans ?_
    exact k_iret (Y := mX10_above) dX10_above_21 rfl
  · rw [if_neg (show ¬ q_cc .lt x0 0 = true from fun z => c1 (of_decide_eq_true z))]
    refine Eq.trans ?_ (if_neg c1).symm
    refine (q_blk (Y := mX10_above) (q_dcC dX10_above_4 q_dcN) (show _ = some (5, [.int x0], [.int x0]) from rfl)).trans ?_
    refine (k_sta (Y := mX10_above) (k := 1) dX10_above_5 rfl).trans ?_
    refine (k_rolen (Y := mX10_above) (k := 1) ho (by decide) dX10_above_8).trans ?_
    refine (q_blk (Y := mX10_above) (q_dcC dX10_above_9 q_dcN) (show _ = some ((if q_cc .ge x0 6 = true then 20 else 12), [.int x0], []) from rfl)).trans ?_
    by_cases c2 : 6 ≤ x0
    · rw [if_pos (show q_cc .ge x0 6 = true from decide_eq_true c2)]
      refine Eq.trans ?_ (if_pos c2).symm
      refine (q_blk (Y := mX10_above) (q_dcC dX10_above_20 q_dcN) (show _ = some (21, [.int x0], [.int (-1)]) from rfl)).trans ?_
      exact k_iret (Y := mX10_above) dX10_above_21 rfl
    · rw [if_neg (show ¬ q_cc .ge x0 6 = true from fun z => c2 (of_decide_eq_true z))]
      refine Eq.trans ?_ (if_neg c2).symm
      refine (k_sta (Y := mX10_above) (k := 1) dX10_above_12 rfl).trans ?_
      refine (q_blk (Y := mX10_above) (q_dcC dX10_above_15 q_dcN) (show _ = some (16, [.int x0], [.int x0, .ref (q_M + 1)]) from rfl)).trans ?_
      by_cases c3 : q_inn x0 6
      rotate_left
      · refine Eq.trans ?_ (q_rgF c3).symm
        exact K_roaldX (Y := mX10_above) (k := 1) ho (by decide) dX10_above_16 c3
      refine Eq.trans ?_ (q_rgT c3).symm
      refine (K_roald (Y := mX10_above) (k := 1) ho (by decide) dX10_above_16 c3).trans ?_
      refine (q_blk (Y := mX10_above) (q_dcC dX10_above_17 q_dcN) (show _ = some (21, [.int x0], [.int (q_way 1 x0.toNatClampNeg)]) from rfl)).trans ?_
      exact k_iret (Y := mX10_above) dX10_above_21 rfl
theorem B_X10_isA_0 {o : q_H} {w : Nat} (hw : q_W w) (d : Nat) (x1 x2 : Int32) (g : Nat → Nat → Int32) : q_sem (d + 1) mX10_isA 0 [.ref w, .int x1, .int x2, .retAddr 0, .retAddr 0] [] (q_K o g) = (q_sem d mX7_get 0 [.ref (w + 11), .int x1, .int 0] [] (q_K o g)).bind (fun r => q_sem (d + 1) mX10_isA 9 [.ref w, .int x1, .int x2, .retAddr 0, .retAddr 0] (r.1.toList ++ []) r.2) := by
  refine (q_blk (Y := mX10_isA) (q_dcC dX10_isA_0 q_dcN) (show _ = some (1, [.ref w, .int x1, .int x2, .retAddr 0, .retAddr 0], [.ref w]) from rfl)).trans ?_
  refine (k_getr (Y := mX10_isA) dX10_isA_1 rfl rfl (W_is0 hw) (by decide) (W_r0_5 hw)).trans ?_
  refine (q_blk (Y := mX10_isA) (q_dcC dX10_isA_4 (q_dcC dX10_isA_5 q_dcN)) (show _ = some (6, [.ref w, .int x1, .int x2, .retAddr 0, .retAddr 0], [.int 0, .int x1, .ref (w + 11)]) from rfl)).trans ?_
  exact K_calV (d := d) (Y := mX10_isA) (Z := mX7_get) (vs := [.int x1, .int 0]) (rest := []) (la := [.ref (w + 11), .int x1, .int 0]) dX10_isA_6 rfl rfl rfl rfl (W_is11 hw) (Nat.le_of_ble_eq_true rfl) rfl (Nat.le_of_ble_eq_true rfl)
theorem B_X10_isA_9 {o : q_H} {w : Nat} (hw : q_W w) (d : Nat) (x1 x2 y0 : Int32) (g : Nat → Nat → Int32) : q_sem (d) mX10_isA 9 [.ref w, .int x1, .int x2, .retAddr 0, .retAddr 0] [.int y0] (q_K o g) = q_sem (d) mX10_isA 13 [.ref w, .int x1, .int x2, .int y0, .int 0] [] (q_K o g) := by
  refine (q_blk (Y := mX10_isA) (q_dcC dX10_isA_9 (q_dcC dX10_isA_10 (q_dcC dX10_isA_11 q_dcN))) (show _ = some (13, [.ref w, .int x1, .int x2, .int y0, .int 0], []) from rfl)).trans ?_
  rfl
theorem B_X10_isA_13 {o : q_H} (ho : q_oR o) {w : Nat} (hw : q_W w) (d : Nat) (x1 x2 x3 x4 : Int32) (g : Nat → Nat → Int32) : q_sem (d + 1) mX10_isA 13 [.ref w, .int x1, .int x2, .int x3, .int x4] [] (q_K o g) = (if 6 ≤ x4 then (if x3 = x2 then some (some (.int 1), q_K o g) else some (some (.int 0), q_K o g)) else (if x3 = x2 then (if x3 = x2 then some (some (.int 1), q_K o g) else some (some (.int 0), q_K o g)) else (q_sem d mX10_above 0 [.int x3] [] (q_K o g)).bind (fun r => q_sem (d + 1) mX10_isA 31 [.ref w, .int x1, .int x2, .int x3, .int x4] (r.1.toList ++ []) r.2))) := by
  refine (q_blk (Y := mX10_isA) (q_dcC dX10_isA_13 q_dcN) (show _ = some (15, [.ref w, .int x1, .int x2, .int x3, .int x4], [.int x4]) from rfl)).trans ?_
  refine (k_sta (Y := mX10_isA) (k := 1) dX10_isA_15 rfl).trans ?_
  refine (k_rolen (Y := mX10_isA) (k := 1) ho (by decide) dX10_isA_18).trans ?_
  refine (q_blk (Y := mX10_isA) (q_dcC dX10_isA_19 q_dcN) (show _ = some ((if q_cc .ge x4 6 = true then 38 else 22), [.ref w, .int x1, .int x2, .int x3, .int x4], []) from rfl)).trans ?_
  by_cases c1 : 6 ≤ x4
  · rw [if_pos (show q_cc .ge x4 6 = true from decide_eq_true c1)]
    refine Eq.trans ?_ (if_pos c1).symm
    refine (q_blk (Y := mX10_isA) (q_dcC dX10_isA_38 (q_dcC dX10_isA_39 (q_dcC dX10_isA_40 q_dcN))) (show _ = some ((if q_cc .ne x3 x2 = true then 47 else 43), [.ref w, .int x1, .int x2, .int x3, .int x4], []) from rfl)).trans ?_
    by_cases c2 : x3 = x2
    · rw [if_neg (show ¬ q_cc .ne x3 x2 = true from fun z => (of_decide_eq_true z : ¬ x3 = x2) c2)]
      refine Eq.trans ?_ (if_pos c2).symm
      refine (q_blk (Y := mX10_isA) (q_dcC dX10_isA_43 (q_dcC dX10_isA_44 q_dcN)) (show _ = some (48, [.ref w, .int x1, .int x2, .int x3, .int x4], [.int 1]) from rfl)).trans ?_
      exact k_iret (Y := mX10_isA) dX10_isA_48 rfl
    · rw [if_pos (show q_cc .ne x3 x2 = true from decide_eq_true c2)]
      refine Eq.trans ?_ (if_neg c2).symm
      refine (q_blk (Y := mX10_isA) (q_dcC dX10_isA_47 q_dcN) (show _ = some (48, [.ref w, .int x1, .int x2, .int x3, .int x4], [.int 0]) from rfl)).trans ?_
      exact k_iret (Y := mX10_isA) dX10_isA_48 rfl
  · rw [if_neg (show ¬ q_cc .ge x4 6 = true from fun z => c1 (of_decide_eq_true z))]
    refine Eq.trans ?_ (if_neg c1).symm
    refine (q_blk (Y := mX10_isA) (q_dcC dX10_isA_22 (q_dcC dX10_isA_23 (q_dcC dX10_isA_24 q_dcN))) (show _ = some ((if q_cc .eq x3 x2 = true then 38 else 27), [.ref w, .int x1, .int x2, .int x3, .int x4], []) from rfl)).trans ?_
    by_cases c3 : x3 = x2
    · rw [if_pos (show q_cc .eq x3 x2 = true from decide_eq_true c3)]
      refine Eq.trans ?_ (if_pos c3).symm
      refine (q_blk (Y := mX10_isA) (q_dcC dX10_isA_38 (q_dcC dX10_isA_39 (q_dcC dX10_isA_40 q_dcN))) (show _ = some ((if q_cc .ne x3 x2 = true then 47 else 43), [.ref w, .int x1, .int x2, .int x3, .int x4], []) from rfl)).trans ?_
      by_cases c4 : x3 = x2
      · rw [if_neg (show ¬ q_cc .ne x3 x2 = true from fun z => (of_decide_eq_true z : ¬ x3 = x2) c4)]
        refine Eq.trans ?_ (if_pos c4).symm
        refine (q_blk (Y := mX10_isA) (q_dcC dX10_isA_43 (q_dcC dX10_isA_44 q_dcN)) (show _ = some (48, [.ref w, .int x1, .int x2, .int x3, .int x4], [.int 1]) from rfl)).trans ?_
        exact k_iret (Y := mX10_isA) dX10_isA_48 rfl
      · rw [if_pos (show q_cc .ne x3 x2 = true from decide_eq_true c4)]
        refine Eq.trans ?_ (if_neg c4).symm
        refine (q_blk (Y := mX10_isA) (q_dcC dX10_isA_47 q_dcN) (show _ = some (48, [.ref w, .int x1, .int x2, .int x3, .int x4], [.int 0]) from rfl)).trans ?_
        exact k_iret (Y := mX10_isA) dX10_isA_48 rfl
    · rw [if_neg (show ¬ q_cc .eq x3 x2 = true from fun z => c3 (of_decide_eq_true z))]
      refine Eq.trans ?_ (if_neg c3).symm
      refine (q_blk (Y := mX10_isA) (q_dcC dX10_isA_27 q_dcN) (show _ = some (28, [.ref w, .int x1, .int x2, .int x3, .int x4], [.int x3]) from rfl)).trans ?_
      exact K_calS (d := d) (Y := mX10_isA) (Z := mX10_above) (vs := [.int x3]) (rest := []) (la := [.int x3]) dX10_isA_28 rfl rfl rfl rfl (Nat.le_of_ble_eq_true rfl) rfl (Nat.le_of_ble_eq_true rfl)
theorem B_X10_isA_31 {o : q_H} {w : Nat} (hw : q_W w) (d : Nat) (x1 x2 x3 x4 y0 : Int32) (g : Nat → Nat → Int32) : q_sem (d) mX10_isA 31 [.ref w, .int x1, .int x2, .int x3, .int x4] [.int y0] (q_K o g) = q_sem (d) mX10_isA 13 [.ref w, .int x1, .int x2, .int y0, .int (x4 + 1)] [] (q_K o g) := by
  refine (q_blk (Y := mX10_isA) (q_dcC dX10_isA_31 (q_dcC dX10_isA_32 (q_dcC dX10_isA_35 q_dcN))) (show _ = some (13, [.ref w, .int x1, .int x2, .int y0, .int (x4 + 1)], []) from rfl)).trans ?_
  rfl
theorem B_X10_stands_0 {o : q_H} {w : Nat} (hw : q_W w) (d : Nat) (x1 x2 : Int32) (g : Nat → Nat → Int32) : q_sem (d + 1) mX10_stands 0 [.ref w, .int x1, .int x2] [] (q_K o g) = (q_sem d mX7_get 0 [.ref (w + 11), .int x1, .int 6] [] (q_K o g)).bind (fun r => q_sem (d + 1) mX10_stands 10 [.ref w, .int x1, .int x2] (r.1.toList ++ []) r.2) := by
  refine (q_blk (Y := mX10_stands) (q_dcC dX10_stands_0 q_dcN) (show _ = some (1, [.ref w, .int x1, .int x2], [.ref w]) from rfl)).trans ?_
  refine (k_getr (Y := mX10_stands) dX10_stands_1 rfl rfl (W_is0 hw) (by decide) (W_r0_5 hw)).trans ?_
  refine (q_blk (Y := mX10_stands) (q_dcC dX10_stands_4 (q_dcC dX10_stands_5 q_dcN)) (show _ = some (7, [.ref w, .int x1, .int x2], [.int 6, .int x1, .ref (w + 11)]) from rfl)).trans ?_
  exact K_calV (d := d) (Y := mX10_stands) (Z := mX7_get) (vs := [.int x1, .int 6]) (rest := []) (la := [.ref (w + 11), .int x1, .int 6]) dX10_stands_7 rfl rfl rfl rfl (W_is11 hw) (Nat.le_of_ble_eq_true rfl) rfl (Nat.le_of_ble_eq_true rfl)
theorem B_X10_stands_10 {o : q_H} {w : Nat} (hw : q_W w) (d : Nat) (x1 x2 y0 : Int32) (g : Nat → Nat → Int32) : q_sem (d) mX10_stands 10 [.ref w, .int x1, .int x2] [.int y0] (q_K o g) = (if y0 = x2 then some (some (.int 1), q_K o g) else some (some (.int 0), q_K o g)) := by
  refine (q_blk (Y := mX10_stands) (q_dcC dX10_stands_10 (q_dcC dX10_stands_11 q_dcN)) (show _ = some ((if q_cc .ne y0 x2 = true then 18 else 14), [.ref w, .int x1, .int x2], []) from rfl)).trans ?_
  by_cases c1 : y0 = x2
  · rw [if_neg (show ¬ q_cc .ne y0 x2 = true from fun z => (of_decide_eq_true z : ¬ y0 = x2) c1)]
    refine Eq.trans ?_ (if_pos c1).symm
    refine (q_blk (Y := mX10_stands) (q_dcC dX10_stands_14 (q_dcC dX10_stands_15 q_dcN)) (show _ = some (19, [.ref w, .int x1, .int x2], [.int 1]) from rfl)).trans ?_
    exact k_iret (Y := mX10_stands) dX10_stands_19 rfl
  · rw [if_pos (show q_cc .ne y0 x2 = true from decide_eq_true c1)]
    refine Eq.trans ?_ (if_neg c1).symm
    refine (q_blk (Y := mX10_stands) (q_dcC dX10_stands_18 q_dcN) (show _ = some (19, [.ref w, .int x1, .int x2], [.int 0]) from rfl)).trans ?_
    exact k_iret (Y := mX10_stands) dX10_stands_19 rfl
theorem B_X10_howMany_0 {o : q_H} {w : Nat} (hw : q_W w) (d : Nat) (x1 x2 : Int32) (g : Nat → Nat → Int32) : q_sem (d) mX10_howMany 0 [.ref w, .int x1, .int x2, .retAddr 0, .retAddr 0] [] (q_K o g) = q_sem (d) mX10_howMany 5 [.ref w, .int x1, .int x2, .int 0, .int 0] [] (q_K o g) := by
  refine (q_blk (Y := mX10_howMany) (q_dcC dX10_howMany_0 (q_dcC dX10_howMany_1 (q_dcC dX10_howMany_2 (q_dcC dX10_howMany_3 q_dcN)))) (show _ = some (5, [.ref w, .int x1, .int x2, .int 0, .int 0], []) from rfl)).trans ?_
  rfl
theorem B_X10_howMany_5 {o : q_H} {w : Nat} (hw : q_W w) (d : Nat) (x1 x2 x3 x4 : Int32) (g : Nat → Nat → Int32) : q_sem (d + 1) mX10_howMany 5 [.ref w, .int x1, .int x2, .int x3, .int x4] [] (q_K o g) = (q_sem d mX7_size 0 [.ref (w + 11)] [] (q_K o g)).bind (fun r => q_sem (d + 1) mX10_howMany 14 [.ref w, .int x1, .int x2, .int x3, .int x4] (r.1.toList ++ [.int x4]) r.2) := by
  refine (q_blk (Y := mX10_howMany) (q_dcC dX10_howMany_5 (q_dcC dX10_howMany_7 q_dcN)) (show _ = some (8, [.ref w, .int x1, .int x2, .int x3, .int x4], [.ref w, .int x4]) from rfl)).trans ?_
  refine (k_getr (Y := mX10_howMany) dX10_howMany_8 rfl rfl (W_is0 hw) (by decide) (W_r0_5 hw)).trans ?_
  exact K_calV (d := d) (Y := mX10_howMany) (Z := mX7_size) (vs := []) (rest := [.int x4]) (la := [.ref (w + 11)]) dX10_howMany_11 rfl rfl rfl rfl (W_is11 hw) (Nat.le_of_ble_eq_true rfl) rfl (Nat.le_of_ble_eq_true rfl)
theorem B_X10_howMany_14 {o : q_H} {w : Nat} (hw : q_W w) (d : Nat) (x1 x2 x3 x4 y0 y1 : Int32) (g : Nat → Nat → Int32) : q_sem (d + 1) mX10_howMany 14 [.ref w, .int x1, .int x2, .int x3, .int x4] [.int y0, .int y1] (q_K o g) = (if y0 ≤ y1 then some (some (.int x3), q_K o g) else (q_sem d mX10_isA 0 [.ref w, .int x4, .int x1, .retAddr 0, .retAddr 0] [] (q_K o g)).bind (fun r => q_sem (d + 1) mX10_howMany 25 [.ref w, .int x1, .int x2, .int x3, .int x4] (r.1.toList ++ [.int x3]) r.2)) := by
  refine (q_blk (Y := mX10_howMany) (q_dcC dX10_howMany_14 q_dcN) (show _ = some ((if q_cc .ge y1 y0 = true then 51 else 17), [.ref w, .int x1, .int x2, .int x3, .int x4], []) from rfl)).trans ?_
  by_cases c1 : y0 ≤ y1
  · rw [if_pos (show q_cc .ge y1 y0 = true from decide_eq_true c1)]
    refine Eq.trans ?_ (if_pos c1).symm
    refine (q_blk (Y := mX10_howMany) (q_dcC dX10_howMany_51 q_dcN) (show _ = some (52, [.ref w, .int x1, .int x2, .int x3, .int x4], [.int x3]) from rfl)).trans ?_
    exact k_iret (Y := mX10_howMany) dX10_howMany_52 rfl
  · rw [if_neg (show ¬ q_cc .ge y1 y0 = true from fun z => c1 (of_decide_eq_true z))]
    refine Eq.trans ?_ (if_neg c1).symm
    refine (q_blk (Y := mX10_howMany) (q_dcC dX10_howMany_17 (q_dcC dX10_howMany_18 (q_dcC dX10_howMany_19 (q_dcC dX10_howMany_21 q_dcN)))) (show _ = some (22, [.ref w, .int x1, .int x2, .int x3, .int x4], [.int x1, .int x4, .ref w, .int x3]) from rfl)).trans ?_
    exact K_calV (d := d) (Y := mX10_howMany) (Z := mX10_isA) (vs := [.int x4, .int x1]) (rest := [.int x3]) (la := [.ref w, .int x4, .int x1, .retAddr 0, .retAddr 0]) dX10_howMany_22 rfl rfl rfl rfl (W_is0 hw) (Nat.le_of_ble_eq_true rfl) rfl (Nat.le_of_ble_eq_true rfl)
theorem B_X10_howMany_25 {o : q_H} {w : Nat} (hw : q_W w) (d : Nat) (x1 x2 x3 x4 y0 y1 : Int32) (g : Nat → Nat → Int32) : q_sem (d + 1) mX10_howMany 25 [.ref w, .int x1, .int x2, .int x3, .int x4] [.int y0, .int y1] (q_K o g) = (if y0 = 0 then q_sem (d + 1) mX10_howMany 5 [.ref w, .int x1, .int x2, .int (y1 + 0), .int (x4 + 1)] [] (q_K o g) else (q_sem d mX10_stands 0 [.ref w, .int x4, .int x2] [] (q_K o g)).bind (fun r => q_sem (d + 1) mX10_howMany 35 [.ref w, .int x1, .int x2, .int x3, .int x4] (r.1.toList ++ [.int y1]) r.2)) := by
  refine (q_blk (Y := mX10_howMany) (q_dcC dX10_howMany_25 q_dcN) (show _ = some ((if q_cc .eq y0 0 = true then 42 else 28), [.ref w, .int x1, .int x2, .int x3, .int x4], [.int y1]) from rfl)).trans ?_
  by_cases c1 : y0 = 0
  · rw [if_pos (show q_cc .eq y0 0 = true from decide_eq_true c1)]
    refine Eq.trans ?_ (if_pos c1).symm
    refine (q_blk (Y := mX10_howMany) (q_dcC dX10_howMany_42 (q_dcC dX10_howMany_43 (q_dcC dX10_howMany_44 (q_dcC dX10_howMany_45 (q_dcC dX10_howMany_48 q_dcN))))) (show _ = some (5, [.ref w, .int x1, .int x2, .int (y1 + 0), .int (x4 + 1)], []) from rfl)).trans ?_
    rfl
  · rw [if_neg (show ¬ q_cc .eq y0 0 = true from fun z => c1 (of_decide_eq_true z))]
    refine Eq.trans ?_ (if_neg c1).symm
    refine (q_blk (Y := mX10_howMany) (q_dcC dX10_howMany_28 (q_dcC dX10_howMany_29 (q_dcC dX10_howMany_31 q_dcN))) (show _ = some (32, [.ref w, .int x1, .int x2, .int x3, .int x4], [.int x2, .int x4, .ref w, .int y1]) from rfl)).trans ?_
    exact K_calV (d := d) (Y := mX10_howMany) (Z := mX10_stands) (vs := [.int x4, .int x2]) (rest := [.int y1]) (la := [.ref w, .int x4, .int x2]) dX10_howMany_32 rfl rfl rfl rfl (W_is0 hw) (Nat.le_of_ble_eq_true rfl) rfl (Nat.le_of_ble_eq_true rfl)
theorem B_X10_howMany_35 {o : q_H} {w : Nat} (hw : q_W w) (d : Nat) (x1 x2 x3 x4 y0 y1 : Int32) (g : Nat → Nat → Int32) : q_sem (d) mX10_howMany 35 [.ref w, .int x1, .int x2, .int x3, .int x4] [.int y0, .int y1] (q_K o g) = (if y0 = 0 then q_sem (d) mX10_howMany 5 [.ref w, .int x1, .int x2, .int (y1 + 0), .int (x4 + 1)] [] (q_K o g) else q_sem (d) mX10_howMany 5 [.ref w, .int x1, .int x2, .int (y1 + 1), .int (x4 + 1)] [] (q_K o g)) := by
  refine (q_blk (Y := mX10_howMany) (q_dcC dX10_howMany_35 q_dcN) (show _ = some ((if q_cc .eq y0 0 = true then 42 else 38), [.ref w, .int x1, .int x2, .int x3, .int x4], [.int y1]) from rfl)).trans ?_
  by_cases c1 : y0 = 0
  · rw [if_pos (show q_cc .eq y0 0 = true from decide_eq_true c1)]
    refine Eq.trans ?_ (if_pos c1).symm
    refine (q_blk (Y := mX10_howMany) (q_dcC dX10_howMany_42 (q_dcC dX10_howMany_43 (q_dcC dX10_howMany_44 (q_dcC dX10_howMany_45 (q_dcC dX10_howMany_48 q_dcN))))) (show _ = some (5, [.ref w, .int x1, .int x2, .int (y1 + 0), .int (x4 + 1)], []) from rfl)).trans ?_
    rfl
  · rw [if_neg (show ¬ q_cc .eq y0 0 = true from fun z => c1 (of_decide_eq_true z))]
    refine Eq.trans ?_ (if_neg c1).symm
    refine (q_blk (Y := mX10_howMany) (q_dcC dX10_howMany_38 (q_dcC dX10_howMany_39 q_dcN)) (show _ = some (43, [.ref w, .int x1, .int x2, .int x3, .int x4], [.int 1, .int y1]) from rfl)).trans ?_
    refine (q_blk (Y := mX10_howMany) (q_dcC dX10_howMany_43 (q_dcC dX10_howMany_44 (q_dcC dX10_howMany_45 (q_dcC dX10_howMany_48 q_dcN)))) (show _ = some (5, [.ref w, .int x1, .int x2, .int (y1 + 1), .int (x4 + 1)], []) from rfl)).trans ?_
    rfl
theorem B_X10_nearestRaid_0 {o : q_H} {w : Nat} (hw : q_W w) (d : Nat) (x1 : Int32) (g : Nat → Nat → Int32) : q_sem (d) mX10_nearestRaid 0 [.ref w, .int x1, .retAddr 0, .retAddr 0] [] (q_K o g) = q_sem (d) mX10_nearestRaid 5 [.ref w, .int x1, .int 99, .int 0] [] (q_K o g) := by
  refine (q_blk (Y := mX10_nearestRaid) (q_dcC dX10_nearestRaid_0 (q_dcC dX10_nearestRaid_2 (q_dcC dX10_nearestRaid_3 (q_dcC dX10_nearestRaid_4 q_dcN)))) (show _ = some (5, [.ref w, .int x1, .int 99, .int 0], []) from rfl)).trans ?_
  rfl
theorem B_X10_nearestRaid_5 {o : q_H} {w : Nat} (hw : q_W w) (d : Nat) (x1 x2 x3 : Int32) (g : Nat → Nat → Int32) : q_sem (d + 1) mX10_nearestRaid 5 [.ref w, .int x1, .int x2, .int x3] [] (q_K o g) = (q_sem d mX7_size 0 [.ref (w + 11)] [] (q_K o g)).bind (fun r => q_sem (d + 1) mX10_nearestRaid 13 [.ref w, .int x1, .int x2, .int x3] (r.1.toList ++ [.int x3]) r.2) := by
  refine (q_blk (Y := mX10_nearestRaid) (q_dcC dX10_nearestRaid_5 (q_dcC dX10_nearestRaid_6 q_dcN)) (show _ = some (7, [.ref w, .int x1, .int x2, .int x3], [.ref w, .int x3]) from rfl)).trans ?_
  refine (k_getr (Y := mX10_nearestRaid) dX10_nearestRaid_7 rfl rfl (W_is0 hw) (by decide) (W_r0_5 hw)).trans ?_
  exact K_calV (d := d) (Y := mX10_nearestRaid) (Z := mX7_size) (vs := []) (rest := [.int x3]) (la := [.ref (w + 11)]) dX10_nearestRaid_10 rfl rfl rfl rfl (W_is11 hw) (Nat.le_of_ble_eq_true rfl) rfl (Nat.le_of_ble_eq_true rfl)
theorem B_X10_nearestRaid_13 {o : q_H} {w : Nat} (hw : q_W w) (d : Nat) (x1 x2 x3 y0 y1 : Int32) (g : Nat → Nat → Int32) : q_sem (d + 1) mX10_nearestRaid 13 [.ref w, .int x1, .int x2, .int x3] [.int y0, .int y1] (q_K o g) = (if y0 ≤ y1 then some (some (.int x2), q_K o g) else (q_sem d mX10_isA 0 [.ref w, .int x3, .int 1, .retAddr 0, .retAddr 0] [] (q_K o g)).bind (fun r => q_sem (d + 1) mX10_nearestRaid 22 [.ref w, .int x1, .int x2, .int x3] (r.1.toList ++ []) r.2)) := by
  refine (q_blk (Y := mX10_nearestRaid) (q_dcC dX10_nearestRaid_13 q_dcN) (show _ = some ((if q_cc .ge y1 y0 = true then 58 else 16), [.ref w, .int x1, .int x2, .int x3], []) from rfl)).trans ?_
  by_cases c1 : y0 ≤ y1
  · rw [if_pos (show q_cc .ge y1 y0 = true from decide_eq_true c1)]
    refine Eq.trans ?_ (if_pos c1).symm
    refine (q_blk (Y := mX10_nearestRaid) (q_dcC dX10_nearestRaid_58 q_dcN) (show _ = some (59, [.ref w, .int x1, .int x2, .int x3], [.int x2]) from rfl)).trans ?_
    exact k_iret (Y := mX10_nearestRaid) dX10_nearestRaid_59 rfl
  · rw [if_neg (show ¬ q_cc .ge y1 y0 = true from fun z => c1 (of_decide_eq_true z))]
    refine Eq.trans ?_ (if_neg c1).symm
    refine (q_blk (Y := mX10_nearestRaid) (q_dcC dX10_nearestRaid_16 (q_dcC dX10_nearestRaid_17 (q_dcC dX10_nearestRaid_18 q_dcN))) (show _ = some (19, [.ref w, .int x1, .int x2, .int x3], [.int 1, .int x3, .ref w]) from rfl)).trans ?_
    exact K_calV (d := d) (Y := mX10_nearestRaid) (Z := mX10_isA) (vs := [.int x3, .int 1]) (rest := []) (la := [.ref w, .int x3, .int 1, .retAddr 0, .retAddr 0]) dX10_nearestRaid_19 rfl rfl rfl rfl (W_is0 hw) (Nat.le_of_ble_eq_true rfl) rfl (Nat.le_of_ble_eq_true rfl)
theorem B_X10_nearestRaid_22 {o : q_H} {w : Nat} (hw : q_W w) (d : Nat) (x1 x2 x3 y0 : Int32) (g : Nat → Nat → Int32) : q_sem (d + 1) mX10_nearestRaid 22 [.ref w, .int x1, .int x2, .int x3] [.int y0] (q_K o g) = (if y0 = 0 then q_sem (d + 1) mX10_nearestRaid 5 [.ref w, .int x1, .int x2, .int (x3 + 1)] [] (q_K o g) else (q_sem d mX10_stands 0 [.ref w, .int x3, .int 0] [] (q_K o g)).bind (fun r => q_sem (d + 1) mX10_nearestRaid 31 [.ref w, .int x1, .int x2, .int x3] (r.1.toList ++ []) r.2)) := by
  refine (q_blk (Y := mX10_nearestRaid) (q_dcC dX10_nearestRaid_22 q_dcN) (show _ = some ((if q_cc .eq y0 0 = true then 52 else 25), [.ref w, .int x1, .int x2, .int x3], []) from rfl)).trans ?_
  by_cases c1 : y0 = 0
  · rw [if_pos (show q_cc .eq y0 0 = true from decide_eq_true c1)]
    refine Eq.trans ?_ (if_pos c1).symm
    refine (q_blk (Y := mX10_nearestRaid) (q_dcC dX10_nearestRaid_52 (q_dcC dX10_nearestRaid_55 q_dcN)) (show _ = some (5, [.ref w, .int x1, .int x2, .int (x3 + 1)], []) from rfl)).trans ?_
    rfl
  · rw [if_neg (show ¬ q_cc .eq y0 0 = true from fun z => c1 (of_decide_eq_true z))]
    refine Eq.trans ?_ (if_neg c1).symm
    refine (q_blk (Y := mX10_nearestRaid) (q_dcC dX10_nearestRaid_25 (q_dcC dX10_nearestRaid_26 (q_dcC dX10_nearestRaid_27 q_dcN))) (show _ = some (28, [.ref w, .int x1, .int x2, .int x3], [.int 0, .int x3, .ref w]) from rfl)).trans ?_
    exact K_calV (d := d) (Y := mX10_nearestRaid) (Z := mX10_stands) (vs := [.int x3, .int 0]) (rest := []) (la := [.ref w, .int x3, .int 0]) dX10_nearestRaid_28 rfl rfl rfl rfl (W_is0 hw) (Nat.le_of_ble_eq_true rfl) rfl (Nat.le_of_ble_eq_true rfl)
theorem B_X10_nearestRaid_31 {o : q_H} {w : Nat} (hw : q_W w) (d : Nat) (x1 x2 x3 y0 : Int32) (g : Nat → Nat → Int32) : q_sem (d + 1) mX10_nearestRaid 31 [.ref w, .int x1, .int x2, .int x3] [.int y0] (q_K o g) = (if y0 = 0 then q_sem (d + 1) mX10_nearestRaid 5 [.ref w, .int x1, .int x2, .int (x3 + 1)] [] (q_K o g) else (q_sem d mX7_get 0 [.ref (w + 11), .int x3, .int 1] [] (q_K o g)).bind (fun r => q_sem (d + 1) mX10_nearestRaid 45 [.ref w, .int x1, .int x2, .int x3] (r.1.toList ++ [.int x1, .int x2]) r.2)) := by
  refine (q_blk (Y := mX10_nearestRaid) (q_dcC dX10_nearestRaid_31 q_dcN) (show _ = some ((if q_cc .eq y0 0 = true then 52 else 34), [.ref w, .int x1, .int x2, .int x3], []) from rfl)).trans ?_
  by_cases c1 : y0 = 0
  · rw [if_pos (show q_cc .eq y0 0 = true from decide_eq_true c1)]
    refine Eq.trans ?_ (if_pos c1).symm
    refine (q_blk (Y := mX10_nearestRaid) (q_dcC dX10_nearestRaid_52 (q_dcC dX10_nearestRaid_55 q_dcN)) (show _ = some (5, [.ref w, .int x1, .int x2, .int (x3 + 1)], []) from rfl)).trans ?_
    rfl
  · rw [if_neg (show ¬ q_cc .eq y0 0 = true from fun z => c1 (of_decide_eq_true z))]
    refine Eq.trans ?_ (if_neg c1).symm
    refine (q_blk (Y := mX10_nearestRaid) (q_dcC dX10_nearestRaid_34 (q_dcC dX10_nearestRaid_35 (q_dcC dX10_nearestRaid_36 q_dcN))) (show _ = some (37, [.ref w, .int x1, .int x2, .int x3], [.ref w, .int x1, .int x2]) from rfl)).trans ?_
    refine (k_getr (Y := mX10_nearestRaid) dX10_nearestRaid_37 rfl rfl (W_is0 hw) (by decide) (W_r0_5 hw)).trans ?_
    refine (q_blk (Y := mX10_nearestRaid) (q_dcC dX10_nearestRaid_40 (q_dcC dX10_nearestRaid_41 q_dcN)) (show _ = some (42, [.ref w, .int x1, .int x2, .int x3], [.int 1, .int x3, .ref (w + 11), .int x1, .int x2]) from rfl)).trans ?_
    exact K_calV (d := d) (Y := mX10_nearestRaid) (Z := mX7_get) (vs := [.int x3, .int 1]) (rest := [.int x1, .int x2]) (la := [.ref (w + 11), .int x3, .int 1]) dX10_nearestRaid_42 rfl rfl rfl rfl (W_is11 hw) (Nat.le_of_ble_eq_true rfl) rfl (Nat.le_of_ble_eq_true rfl)
theorem B_X10_nearestRaid_45 {o : q_H} {w : Nat} (hw : q_W w) (d : Nat) (x1 x2 x3 y0 y1 y2 : Int32) (g : Nat → Nat → Int32) : q_sem (d + 1) mX10_nearestRaid 45 [.ref w, .int x1, .int x2, .int x3] [.int y0, .int y1, .int y2] (q_K o g) = (q_sem d mX3_apart 0 [.int y1, .int y0] [] (q_K o g)).bind (fun r => q_sem (d + 1) mX10_nearestRaid 48 [.ref w, .int x1, .int x2, .int x3] (r.1.toList ++ [.int y2]) r.2) := by
  exact K_calS (d := d) (Y := mX10_nearestRaid) (Z := mX3_apart) (vs := [.int y1, .int y0]) (rest := [.int y2]) (la := [.int y1, .int y0]) dX10_nearestRaid_45 rfl rfl rfl rfl (Nat.le_of_ble_eq_true rfl) rfl (Nat.le_of_ble_eq_true rfl)
theorem B_X10_nearestRaid_48 {o : q_H} {w : Nat} (hw : q_W w) (d : Nat) (x1 x2 x3 y0 y1 : Int32) (g : Nat → Nat → Int32) : q_sem (d) mX10_nearestRaid 48 [.ref w, .int x1, .int x2, .int x3] [.int y0, .int y1] (q_K o g) = q_sem (d) mX10_nearestRaid 5 [.ref w, .int x1, .int (if y0 < y1 then y0 else y1), .int (x3 + 1)] [] (q_K o g) := by
  refine (k_min (Y := mX10_nearestRaid) dX10_nearestRaid_48 rfl rfl (by decide) (by decide) (by decide) (Nat.le_of_ble_eq_true rfl)).trans ?_
  refine (q_blk (Y := mX10_nearestRaid) (q_dcC dX10_nearestRaid_51 (q_dcC dX10_nearestRaid_52 (q_dcC dX10_nearestRaid_55 q_dcN))) (show _ = some (5, [.ref w, .int x1, .int (if y0 < y1 then y0 else y1), .int (x3 + 1)], []) from rfl)).trans ?_
  rfl
theorem B_X10_manyOfRaids_0 {o : q_H} {w : Nat} (hw : q_W w) (d : Nat) (g : Nat → Nat → Int32) : q_sem (d) mX10_manyOfRaids 0 [.ref w, .retAddr 0, .retAddr 0] [] (q_K o g) = q_sem (d) mX10_manyOfRaids 4 [.ref w, .int 0, .int 0] [] (q_K o g) := by
  refine (q_blk (Y := mX10_manyOfRaids) (q_dcC dX10_manyOfRaids_0 (q_dcC dX10_manyOfRaids_1 (q_dcC dX10_manyOfRaids_2 (q_dcC dX10_manyOfRaids_3 q_dcN)))) (show _ = some (4, [.ref w, .int 0, .int 0], []) from rfl)).trans ?_
  rfl
theorem B_X10_manyOfRaids_4 {o : q_H} {w : Nat} (hw : q_W w) (d : Nat) (x1 x2 : Int32) (g : Nat → Nat → Int32) : q_sem (d + 1) mX10_manyOfRaids 4 [.ref w, .int x1, .int x2] [] (q_K o g) = (q_sem d mX7_size 0 [.ref (w + 11)] [] (q_K o g)).bind (fun r => q_sem (d + 1) mX10_manyOfRaids 12 [.ref w, .int x1, .int x2] (r.1.toList ++ [.int x2]) r.2) := by
  refine (q_blk (Y := mX10_manyOfRaids) (q_dcC dX10_manyOfRaids_4 (q_dcC dX10_manyOfRaids_5 q_dcN)) (show _ = some (6, [.ref w, .int x1, .int x2], [.ref w, .int x2]) from rfl)).trans ?_
  refine (k_getr (Y := mX10_manyOfRaids) dX10_manyOfRaids_6 rfl rfl (W_is0 hw) (by decide) (W_r0_5 hw)).trans ?_
  exact K_calV (d := d) (Y := mX10_manyOfRaids) (Z := mX7_size) (vs := []) (rest := [.int x2]) (la := [.ref (w + 11)]) dX10_manyOfRaids_9 rfl rfl rfl rfl (W_is11 hw) (Nat.le_of_ble_eq_true rfl) rfl (Nat.le_of_ble_eq_true rfl)
theorem B_X10_manyOfRaids_12 {o : q_H} {w : Nat} (hw : q_W w) (d : Nat) (x1 x2 y0 y1 : Int32) (g : Nat → Nat → Int32) : q_sem (d + 1) mX10_manyOfRaids 12 [.ref w, .int x1, .int x2] [.int y0, .int y1] (q_K o g) = (if y0 ≤ y1 then some (some (.int x1), q_K o g) else (q_sem d mX10_isA 0 [.ref w, .int x2, .int 1, .retAddr 0, .retAddr 0] [] (q_K o g)).bind (fun r => q_sem (d + 1) mX10_manyOfRaids 22 [.ref w, .int x1, .int x2] (r.1.toList ++ [.int x1]) r.2)) := by
  refine (q_blk (Y := mX10_manyOfRaids) (q_dcC dX10_manyOfRaids_12 q_dcN) (show _ = some ((if q_cc .ge y1 y0 = true then 55 else 15), [.ref w, .int x1, .int x2], []) from rfl)).trans ?_
  by_cases c1 : y0 ≤ y1
  · rw [if_pos (show q_cc .ge y1 y0 = true from decide_eq_true c1)]
    refine Eq.trans ?_ (if_pos c1).symm
    refine (q_blk (Y := mX10_manyOfRaids) (q_dcC dX10_manyOfRaids_55 q_dcN) (show _ = some (56, [.ref w, .int x1, .int x2], [.int x1]) from rfl)).trans ?_
    exact k_iret (Y := mX10_manyOfRaids) dX10_manyOfRaids_56 rfl
  · rw [if_neg (show ¬ q_cc .ge y1 y0 = true from fun z => c1 (of_decide_eq_true z))]
    refine Eq.trans ?_ (if_neg c1).symm
    refine (q_blk (Y := mX10_manyOfRaids) (q_dcC dX10_manyOfRaids_15 (q_dcC dX10_manyOfRaids_16 (q_dcC dX10_manyOfRaids_17 (q_dcC dX10_manyOfRaids_18 q_dcN)))) (show _ = some (19, [.ref w, .int x1, .int x2], [.int 1, .int x2, .ref w, .int x1]) from rfl)).trans ?_
    exact K_calV (d := d) (Y := mX10_manyOfRaids) (Z := mX10_isA) (vs := [.int x2, .int 1]) (rest := [.int x1]) (la := [.ref w, .int x2, .int 1, .retAddr 0, .retAddr 0]) dX10_manyOfRaids_19 rfl rfl rfl rfl (W_is0 hw) (Nat.le_of_ble_eq_true rfl) rfl (Nat.le_of_ble_eq_true rfl)
theorem B_X10_manyOfRaids_22 {o : q_H} {w : Nat} (hw : q_W w) (d : Nat) (x1 x2 y0 y1 : Int32) (g : Nat → Nat → Int32) : q_sem (d + 1) mX10_manyOfRaids 22 [.ref w, .int x1, .int x2] [.int y0, .int y1] (q_K o g) = (if y0 = 0 then q_sem (d + 1) mX10_manyOfRaids 4 [.ref w, .int (y1 + 0), .int (x2 + 1)] [] (q_K o g) else (q_sem d mX10_stands 0 [.ref w, .int x2, .int 0] [] (q_K o g)).bind (fun r => q_sem (d + 1) mX10_manyOfRaids 31 [.ref w, .int x1, .int x2] (r.1.toList ++ [.int y1]) r.2)) := by
  refine (q_blk (Y := mX10_manyOfRaids) (q_dcC dX10_manyOfRaids_22 q_dcN) (show _ = some ((if q_cc .eq y0 0 = true then 46 else 25), [.ref w, .int x1, .int x2], [.int y1]) from rfl)).trans ?_
  by_cases c1 : y0 = 0
  · rw [if_pos (show q_cc .eq y0 0 = true from decide_eq_true c1)]
    refine Eq.trans ?_ (if_pos c1).symm
    refine (q_blk (Y := mX10_manyOfRaids) (q_dcC dX10_manyOfRaids_46 (q_dcC dX10_manyOfRaids_47 (q_dcC dX10_manyOfRaids_48 (q_dcC dX10_manyOfRaids_49 (q_dcC dX10_manyOfRaids_52 q_dcN))))) (show _ = some (4, [.ref w, .int (y1 + 0), .int (x2 + 1)], []) from rfl)).trans ?_
    rfl
  · rw [if_neg (show ¬ q_cc .eq y0 0 = true from fun z => c1 (of_decide_eq_true z))]
    refine Eq.trans ?_ (if_neg c1).symm
    refine (q_blk (Y := mX10_manyOfRaids) (q_dcC dX10_manyOfRaids_25 (q_dcC dX10_manyOfRaids_26 (q_dcC dX10_manyOfRaids_27 q_dcN))) (show _ = some (28, [.ref w, .int x1, .int x2], [.int 0, .int x2, .ref w, .int y1]) from rfl)).trans ?_
    exact K_calV (d := d) (Y := mX10_manyOfRaids) (Z := mX10_stands) (vs := [.int x2, .int 0]) (rest := [.int y1]) (la := [.ref w, .int x2, .int 0]) dX10_manyOfRaids_28 rfl rfl rfl rfl (W_is0 hw) (Nat.le_of_ble_eq_true rfl) rfl (Nat.le_of_ble_eq_true rfl)
theorem B_X10_manyOfRaids_31 {o : q_H} {w : Nat} (hw : q_W w) (d : Nat) (x1 x2 y0 y1 : Int32) (g : Nat → Nat → Int32) : q_sem (d + 1) mX10_manyOfRaids 31 [.ref w, .int x1, .int x2] [.int y0, .int y1] (q_K o g) = (if y0 = 0 then q_sem (d + 1) mX10_manyOfRaids 4 [.ref w, .int (y1 + 0), .int (x2 + 1)] [] (q_K o g) else (q_sem d mX7_get 0 [.ref (w + 11), .int x2, .int 5] [] (q_K o g)).bind (fun r => q_sem (d + 1) mX10_manyOfRaids 43 [.ref w, .int x1, .int x2] (r.1.toList ++ [.int y1]) r.2)) := by
  refine (q_blk (Y := mX10_manyOfRaids) (q_dcC dX10_manyOfRaids_31 q_dcN) (show _ = some ((if q_cc .eq y0 0 = true then 46 else 34), [.ref w, .int x1, .int x2], [.int y1]) from rfl)).trans ?_
  by_cases c1 : y0 = 0
  · rw [if_pos (show q_cc .eq y0 0 = true from decide_eq_true c1)]
    refine Eq.trans ?_ (if_pos c1).symm
    refine (q_blk (Y := mX10_manyOfRaids) (q_dcC dX10_manyOfRaids_46 (q_dcC dX10_manyOfRaids_47 (q_dcC dX10_manyOfRaids_48 (q_dcC dX10_manyOfRaids_49 (q_dcC dX10_manyOfRaids_52 q_dcN))))) (show _ = some (4, [.ref w, .int (y1 + 0), .int (x2 + 1)], []) from rfl)).trans ?_
    rfl
  · rw [if_neg (show ¬ q_cc .eq y0 0 = true from fun z => c1 (of_decide_eq_true z))]
    refine Eq.trans ?_ (if_neg c1).symm
    refine (q_blk (Y := mX10_manyOfRaids) (q_dcC dX10_manyOfRaids_34 q_dcN) (show _ = some (35, [.ref w, .int x1, .int x2], [.ref w, .int y1]) from rfl)).trans ?_
    refine (k_getr (Y := mX10_manyOfRaids) dX10_manyOfRaids_35 rfl rfl (W_is0 hw) (by decide) (W_r0_5 hw)).trans ?_
    refine (q_blk (Y := mX10_manyOfRaids) (q_dcC dX10_manyOfRaids_38 (q_dcC dX10_manyOfRaids_39 q_dcN)) (show _ = some (40, [.ref w, .int x1, .int x2], [.int 5, .int x2, .ref (w + 11), .int y1]) from rfl)).trans ?_
    exact K_calV (d := d) (Y := mX10_manyOfRaids) (Z := mX7_get) (vs := [.int x2, .int 5]) (rest := [.int y1]) (la := [.ref (w + 11), .int x2, .int 5]) dX10_manyOfRaids_40 rfl rfl rfl rfl (W_is11 hw) (Nat.le_of_ble_eq_true rfl) rfl (Nat.le_of_ble_eq_true rfl)
theorem B_X10_manyOfRaids_43 {o : q_H} {w : Nat} (hw : q_W w) (d : Nat) (x1 x2 y0 y1 : Int32) (g : Nat → Nat → Int32) : q_sem (d) mX10_manyOfRaids 43 [.ref w, .int x1, .int x2] [.int y0, .int y1] (q_K o g) = q_sem (d) mX10_manyOfRaids 4 [.ref w, .int (y1 + y0), .int (x2 + 1)] [] (q_K o g) := by
  refine (q_blk (Y := mX10_manyOfRaids) (q_dcC dX10_manyOfRaids_43 q_dcN) (show _ = some (47, [.ref w, .int x1, .int x2], [.int y0, .int y1]) from rfl)).trans ?_
  refine (q_blk (Y := mX10_manyOfRaids) (q_dcC dX10_manyOfRaids_47 (q_dcC dX10_manyOfRaids_48 (q_dcC dX10_manyOfRaids_49 (q_dcC dX10_manyOfRaids_52 q_dcN)))) (show _ = some (4, [.ref w, .int (y1 + y0), .int (x2 + 1)], []) from rfl)).trans ?_
  rfl
theorem B_X10_wails_0 {o : q_H} {w : Nat} (hw : q_W w) (d : Nat) (x1 : Int32) (g : Nat → Nat → Int32) : q_sem (d + 1) mX10_wails 0 [.ref w, .int x1, .retAddr 0, .retAddr 0] [] (q_K o g) = (q_sem d mX7_get 0 [.ref (w + 9), .int x1, .int 0] [] (q_K o g)).bind (fun r => q_sem (d + 1) mX10_wails 10 [.ref w, .int x1, .retAddr 0, .retAddr 0] (r.1.toList ++ [.ref w]) r.2) := by
  refine (q_blk (Y := mX10_wails) (q_dcC dX10_wails_0 (q_dcC dX10_wails_1 q_dcN)) (show _ = some (2, [.ref w, .int x1, .retAddr 0, .retAddr 0], [.ref w, .ref w]) from rfl)).trans ?_
  refine (k_getr (Y := mX10_wails) dX10_wails_2 rfl rfl (W_is0 hw) (by decide) (W_r0_4 hw)).trans ?_
  refine (q_blk (Y := mX10_wails) (q_dcC dX10_wails_5 (q_dcC dX10_wails_6 q_dcN)) (show _ = some (7, [.ref w, .int x1, .retAddr 0, .retAddr 0], [.int 0, .int x1, .ref (w + 9), .ref w]) from rfl)).trans ?_
  exact K_calV (d := d) (Y := mX10_wails) (Z := mX7_get) (vs := [.int x1, .int 0]) (rest := [.ref w]) (la := [.ref (w + 9), .int x1, .int 0]) dX10_wails_7 rfl rfl rfl rfl (W_is9 hw) (Nat.le_of_ble_eq_true rfl) rfl (Nat.le_of_ble_eq_true rfl)
theorem B_X10_wails_10 {o : q_H} {w : Nat} (hw : q_W w) (d : Nat) (x1 y0 : Int32) (g : Nat → Nat → Int32) : q_sem (d + 1) mX10_wails 10 [.ref w, .int x1, .retAddr 0, .retAddr 0] [.int y0, .ref w] (q_K o g) = (q_sem d mX10_nearestRaid 0 [.ref w, .int y0, .retAddr 0, .retAddr 0] [] (q_K o g)).bind (fun r => q_sem (d + 1) mX10_wails 13 [.ref w, .int x1, .retAddr 0, .retAddr 0] (r.1.toList ++ []) r.2) := by
  exact K_calV (d := d) (Y := mX10_wails) (Z := mX10_nearestRaid) (vs := [.int y0]) (rest := []) (la := [.ref w, .int y0, .retAddr 0, .retAddr 0]) dX10_wails_10 rfl rfl rfl rfl (W_is0 hw) (Nat.le_of_ble_eq_true rfl) rfl (Nat.le_of_ble_eq_true rfl)
theorem B_X10_wails_13 {o : q_H} {w : Nat} (hw : q_W w) (d : Nat) (x1 y0 : Int32) (g : Nat → Nat → Int32) : q_sem (d + 1) mX10_wails 13 [.ref w, .int x1, .retAddr 0, .retAddr 0] [.int y0] (q_K o g) = (q_sem d mX5_inForce 0 [.ref (w + 15), .int 0, .int (g w 8), .retAddr 0] [] (q_K o g)).bind (fun r => q_sem (d + 1) mX10_wails 26 [.ref w, .int x1, .int y0, .retAddr 0] (r.1.toList ++ []) r.2) := by
  refine (q_blk (Y := mX10_wails) (q_dcC dX10_wails_13 (q_dcC dX10_wails_14 q_dcN)) (show _ = some (15, [.ref w, .int x1, .int y0, .retAddr 0], [.ref w]) from rfl)).trans ?_
  refine (k_getr (Y := mX10_wails) dX10_wails_15 rfl rfl (W_is0 hw) (by decide) (W_r0_7 hw)).trans ?_
  refine (q_blk (Y := mX10_wails) (q_dcC dX10_wails_18 (q_dcC dX10_wails_19 q_dcN)) (show _ = some (20, [.ref w, .int x1, .int y0, .retAddr 0], [.ref w, .int 0, .ref (w + 15)]) from rfl)).trans ?_
  refine (k_geti (Y := mX10_wails) dX10_wails_20 rfl rfl (W_is0 hw) (by decide) (W_n0_8 hw)).trans ?_
  exact K_calV (d := d) (Y := mX10_wails) (Z := mX5_inForce) (vs := [.int 0, .int (g w 8)]) (rest := []) (la := [.ref (w + 15), .int 0, .int (g w 8), .retAddr 0]) dX10_wails_23 rfl rfl rfl rfl (W_is15 hw) (Nat.le_of_ble_eq_true rfl) rfl (Nat.le_of_ble_eq_true rfl)
theorem B_X10_wails_26 {o : q_H} {w : Nat} (hw : q_W w) (d : Nat) (x1 x2 y0 : Int32) (g : Nat → Nat → Int32) : q_sem (d + 1) mX10_wails 26 [.ref w, .int x1, .int x2, .retAddr 0] [.int y0] (q_K o g) = (if 0 ≤ y0 then (q_sem d mX10_manyOfRaids 0 [.ref w, .retAddr 0, .retAddr 0] [] (q_K o g)).bind (fun r => q_sem (d + 1) mX10_wails 54 [.ref w, .int x1, .int x2, .int y0] (r.1.toList ++ [.int x2, .int y0, .ref (w + 15)]) r.2) else (if 3 ≤ x2 then some (some (.int 0), q_K o g) else some (some (.int 1), q_K o g))) := by
  refine (q_blk (Y := mX10_wails) (q_dcC dX10_wails_26 (q_dcC dX10_wails_27 (q_dcC dX10_wails_28 q_dcN))) (show _ = some ((if q_cc .ge y0 0 = true then 44 else 31), [.ref w, .int x1, .int x2, .int y0], []) from rfl)).trans ?_
  by_cases c1 : 0 ≤ y0
  · rw [if_pos (show q_cc .ge y0 0 = true from decide_eq_true c1)]
    refine Eq.trans ?_ (if_pos c1).symm
    refine (q_blk (Y := mX10_wails) (q_dcC dX10_wails_44 q_dcN) (show _ = some (45, [.ref w, .int x1, .int x2, .int y0], [.ref w]) from rfl)).trans ?_
    refine (k_getr (Y := mX10_wails) dX10_wails_45 rfl rfl (W_is0 hw) (by decide) (W_r0_7 hw)).trans ?_
    refine (q_blk (Y := mX10_wails) (q_dcC dX10_wails_48 (q_dcC dX10_wails_49 (q_dcC dX10_wails_50 q_dcN))) (show _ = some (51, [.ref w, .int x1, .int x2, .int y0], [.ref w, .int x2, .int y0, .ref (w + 15)]) from rfl)).trans ?_
    exact K_calV (d := d) (Y := mX10_wails) (Z := mX10_manyOfRaids) (vs := []) (rest := [.int x2, .int y0, .ref (w + 15)]) (la := [.ref w, .retAddr 0, .retAddr 0]) dX10_wails_51 rfl rfl rfl rfl (W_is0 hw) (Nat.le_of_ble_eq_true rfl) rfl (Nat.le_of_ble_eq_true rfl)
  · rw [if_neg (show ¬ q_cc .ge y0 0 = true from fun z => c1 (of_decide_eq_true z))]
    refine Eq.trans ?_ (if_neg c1).symm
    refine (q_blk (Y := mX10_wails) (q_dcC dX10_wails_31 (q_dcC dX10_wails_32 (q_dcC dX10_wails_33 q_dcN))) (show _ = some ((if q_cc .ge x2 3 = true then 40 else 36), [.ref w, .int x1, .int x2, .int y0], []) from rfl)).trans ?_
    by_cases c2 : 3 ≤ x2
    · rw [if_pos (show q_cc .ge x2 3 = true from decide_eq_true c2)]
      refine Eq.trans ?_ (if_pos c2).symm
      refine (q_blk (Y := mX10_wails) (q_dcC dX10_wails_40 (q_dcC dX10_wails_41 q_dcN)) (show _ = some (73, [.ref w, .int x1, .int x2, .int y0], [.int 0]) from rfl)).trans ?_
      exact k_iret (Y := mX10_wails) dX10_wails_73 rfl
    · rw [if_neg (show ¬ q_cc .ge x2 3 = true from fun z => c2 (of_decide_eq_true z))]
      refine Eq.trans ?_ (if_neg c2).symm
      refine (q_blk (Y := mX10_wails) (q_dcC dX10_wails_36 (q_dcC dX10_wails_37 q_dcN)) (show _ = some (73, [.ref w, .int x1, .int x2, .int y0], [.int 1]) from rfl)).trans ?_
      exact k_iret (Y := mX10_wails) dX10_wails_73 rfl
theorem B_X10_wails_54 {o : q_H} {w : Nat} (hw : q_W w) (d : Nat) (x1 x2 x3 y0 y1 y2 : Int32) (g : Nat → Nat → Int32) : q_sem (d + 1) mX10_wails 54 [.ref w, .int x1, .int x2, .int x3] [.int y0, .int y1, .int y2, .ref (w + 15)] (q_K o g) = (q_sem d mX5_worth 0 [.ref (w + 15), .int y2, .int y1, .int y0, .int (g w 9), .int (g w 8), .retAddr 0, .retAddr 0, .retAddr 0] [] (q_K o g)).bind (fun r => q_sem (d + 1) mX10_wails 65 [.ref w, .int x1, .int x2, .int x3] (r.1.toList ++ []) r.2) := by
  refine (q_blk (Y := mX10_wails) (q_dcC dX10_wails_54 q_dcN) (show _ = some (55, [.ref w, .int x1, .int x2, .int x3], [.ref w, .int y0, .int y1, .int y2, .ref (w + 15)]) from rfl)).trans ?_
  refine (k_geti (Y := mX10_wails) dX10_wails_55 rfl rfl (W_is0 hw) (by decide) (W_n0_9 hw)).trans ?_
  refine (q_blk (Y := mX10_wails) (q_dcC dX10_wails_58 q_dcN) (show _ = some (59, [.ref w, .int x1, .int x2, .int x3], [.ref w, .int (g w 9), .int y0, .int y1, .int y2, .ref (w + 15)]) from rfl)).trans ?_
  refine (k_geti (Y := mX10_wails) dX10_wails_59 rfl rfl (W_is0 hw) (by decide) (W_n0_8 hw)).trans ?_
  exact K_calV (d := d) (Y := mX10_wails) (Z := mX5_worth) (vs := [.int y2, .int y1, .int y0, .int (g w 9), .int (g w 8)]) (rest := []) (la := [.ref (w + 15), .int y2, .int y1, .int y0, .int (g w 9), .int (g w 8), .retAddr 0, .retAddr 0, .retAddr 0]) dX10_wails_62 rfl rfl rfl rfl (W_is15 hw) (Nat.le_of_ble_eq_true rfl) rfl (Nat.le_of_ble_eq_true rfl)
theorem B_X10_wails_65 {o : q_H} {w : Nat} (hw : q_W w) (d : Nat) (x1 x2 x3 y0 : Int32) (g : Nat → Nat → Int32) : q_sem (d) mX10_wails 65 [.ref w, .int x1, .int x2, .int x3] [.int y0] (q_K o g) = (if y0 = 0 then some (some (.int 0), q_K o g) else some (some (.int 1), q_K o g)) := by
  refine (q_blk (Y := mX10_wails) (q_dcC dX10_wails_65 q_dcN) (show _ = some ((if q_cc .eq y0 0 = true then 72 else 68), [.ref w, .int x1, .int x2, .int x3], []) from rfl)).trans ?_
  by_cases c1 : y0 = 0
  · rw [if_pos (show q_cc .eq y0 0 = true from decide_eq_true c1)]
    refine Eq.trans ?_ (if_pos c1).symm
    refine (q_blk (Y := mX10_wails) (q_dcC dX10_wails_72 q_dcN) (show _ = some (73, [.ref w, .int x1, .int x2, .int x3], [.int 0]) from rfl)).trans ?_
    exact k_iret (Y := mX10_wails) dX10_wails_73 rfl
  · rw [if_neg (show ¬ q_cc .eq y0 0 = true from fun z => c1 (of_decide_eq_true z))]
    refine Eq.trans ?_ (if_neg c1).symm
    refine (q_blk (Y := mX10_wails) (q_dcC dX10_wails_68 (q_dcC dX10_wails_69 q_dcN)) (show _ = some (73, [.ref w, .int x1, .int x2, .int x3], [.int 1]) from rfl)).trans ?_
    exact k_iret (Y := mX10_wails) dX10_wails_73 rfl
theorem B_X10_isHostile_0 {o : q_H} {w : Nat} (hw : q_W w) (d : Nat) (x1 : Int32) (g : Nat → Nat → Int32) : q_sem (d + 1) mX10_isHostile 0 [.ref w, .int x1, .retAddr 0] [] (q_K o g) = (q_sem d mX5_inForce 0 [.ref (w + 15), .int 1, .int (g w 8), .retAddr 0] [] (q_K o g)).bind (fun r => q_sem (d + 1) mX10_isHostile 12 [.ref w, .int x1, .retAddr 0] (r.1.toList ++ []) r.2) := by
  refine (q_blk (Y := mX10_isHostile) (q_dcC dX10_isHostile_0 q_dcN) (show _ = some (1, [.ref w, .int x1, .retAddr 0], [.ref w]) from rfl)).trans ?_
  refine (k_getr (Y := mX10_isHostile) dX10_isHostile_1 rfl rfl (W_is0 hw) (by decide) (W_r0_7 hw)).trans ?_
  refine (q_blk (Y := mX10_isHostile) (q_dcC dX10_isHostile_4 (q_dcC dX10_isHostile_5 q_dcN)) (show _ = some (6, [.ref w, .int x1, .retAddr 0], [.ref w, .int 1, .ref (w + 15)]) from rfl)).trans ?_
  refine (k_geti (Y := mX10_isHostile) dX10_isHostile_6 rfl rfl (W_is0 hw) (by decide) (W_n0_8 hw)).trans ?_
  exact K_calV (d := d) (Y := mX10_isHostile) (Z := mX5_inForce) (vs := [.int 1, .int (g w 8)]) (rest := []) (la := [.ref (w + 15), .int 1, .int (g w 8), .retAddr 0]) dX10_isHostile_9 rfl rfl rfl rfl (W_is15 hw) (Nat.le_of_ble_eq_true rfl) rfl (Nat.le_of_ble_eq_true rfl)
theorem B_X10_isHostile_12 {o : q_H} {w : Nat} (hw : q_W w) (d : Nat) (x1 y0 : Int32) (g : Nat → Nat → Int32) : q_sem (d + 1) mX10_isHostile 12 [.ref w, .int x1, .retAddr 0] [.int y0] (q_K o g) = (if 0 ≤ y0 then (q_sem d mX7_get 0 [.ref (w + 11), .int x1, .int 3] [] (q_K o g)).bind (fun r => q_sem (d + 1) mX10_isHostile 46 [.ref w, .int x1, .int y0] (r.1.toList ++ [.int y0, .ref (w + 15)]) r.2) else (q_sem d mX10_isA 0 [.ref w, .int x1, .int 3, .retAddr 0, .retAddr 0] [] (q_K o g)).bind (fun r => q_sem (d + 1) mX10_isHostile 23 [.ref w, .int x1, .int y0] (r.1.toList ++ []) r.2)) := by
  refine (q_blk (Y := mX10_isHostile) (q_dcC dX10_isHostile_12 (q_dcC dX10_isHostile_13 (q_dcC dX10_isHostile_14 q_dcN))) (show _ = some ((if q_cc .ge y0 0 = true then 32 else 17), [.ref w, .int x1, .int y0], []) from rfl)).trans ?_
  by_cases c1 : 0 ≤ y0
  · rw [if_pos (show q_cc .ge y0 0 = true from decide_eq_true c1)]
    refine Eq.trans ?_ (if_pos c1).symm
    refine (q_blk (Y := mX10_isHostile) (q_dcC dX10_isHostile_32 q_dcN) (show _ = some (33, [.ref w, .int x1, .int y0], [.ref w]) from rfl)).trans ?_
    refine (k_getr (Y := mX10_isHostile) dX10_isHostile_33 rfl rfl (W_is0 hw) (by decide) (W_r0_7 hw)).trans ?_
    refine (q_blk (Y := mX10_isHostile) (q_dcC dX10_isHostile_36 (q_dcC dX10_isHostile_37 q_dcN)) (show _ = some (38, [.ref w, .int x1, .int y0], [.ref w, .int y0, .ref (w + 15)]) from rfl)).trans ?_
    refine (k_getr (Y := mX10_isHostile) dX10_isHostile_38 rfl rfl (W_is0 hw) (by decide) (W_r0_5 hw)).trans ?_
    refine (q_blk (Y := mX10_isHostile) (q_dcC dX10_isHostile_41 (q_dcC dX10_isHostile_42 q_dcN)) (show _ = some (43, [.ref w, .int x1, .int y0], [.int 3, .int x1, .ref (w + 11), .int y0, .ref (w + 15)]) from rfl)).trans ?_
    exact K_calV (d := d) (Y := mX10_isHostile) (Z := mX7_get) (vs := [.int x1, .int 3]) (rest := [.int y0, .ref (w + 15)]) (la := [.ref (w + 11), .int x1, .int 3]) dX10_isHostile_43 rfl rfl rfl rfl (W_is11 hw) (Nat.le_of_ble_eq_true rfl) rfl (Nat.le_of_ble_eq_true rfl)
  · rw [if_neg (show ¬ q_cc .ge y0 0 = true from fun z => c1 (of_decide_eq_true z))]
    refine Eq.trans ?_ (if_neg c1).symm
    refine (q_blk (Y := mX10_isHostile) (q_dcC dX10_isHostile_17 (q_dcC dX10_isHostile_18 (q_dcC dX10_isHostile_19 q_dcN))) (show _ = some (20, [.ref w, .int x1, .int y0], [.int 3, .int x1, .ref w]) from rfl)).trans ?_
    exact K_calV (d := d) (Y := mX10_isHostile) (Z := mX10_isA) (vs := [.int x1, .int 3]) (rest := []) (la := [.ref w, .int x1, .int 3, .retAddr 0, .retAddr 0]) dX10_isHostile_20 rfl rfl rfl rfl (W_is0 hw) (Nat.le_of_ble_eq_true rfl) rfl (Nat.le_of_ble_eq_true rfl)
theorem B_X10_isHostile_46 {o : q_H} {w : Nat} (hw : q_W w) (d : Nat) (x1 x2 y0 y1 : Int32) (g : Nat → Nat → Int32) : q_sem (d + 1) mX10_isHostile 46 [.ref w, .int x1, .int x2] [.int y0, .int y1, .ref (w + 15)] (q_K o g) = (q_sem d mX7_get 0 [.ref (w + 11), .int x1, .int 2] [] (q_K o g)).bind (fun r => q_sem (d + 1) mX10_isHostile 55 [.ref w, .int x1, .int x2] (r.1.toList ++ [.int y0, .int y1, .ref (w + 15)]) r.2) := by
  refine (q_blk (Y := mX10_isHostile) (q_dcC dX10_isHostile_46 q_dcN) (show _ = some (47, [.ref w, .int x1, .int x2], [.ref w, .int y0, .int y1, .ref (w + 15)]) from rfl)).trans ?_
  refine (k_getr (Y := mX10_isHostile) dX10_isHostile_47 rfl rfl (W_is0 hw) (by decide) (W_r0_5 hw)).trans ?_
  refine (q_blk (Y := mX10_isHostile) (q_dcC dX10_isHostile_50 (q_dcC dX10_isHostile_51 q_dcN)) (show _ = some (52, [.ref w, .int x1, .int x2], [.int 2, .int x1, .ref (w + 11), .int y0, .int y1, .ref (w + 15)]) from rfl)).trans ?_
  exact K_calV (d := d) (Y := mX10_isHostile) (Z := mX7_get) (vs := [.int x1, .int 2]) (rest := [.int y0, .int y1, .ref (w + 15)]) (la := [.ref (w + 11), .int x1, .int 2]) dX10_isHostile_52 rfl rfl rfl rfl (W_is11 hw) (Nat.le_of_ble_eq_true rfl) rfl (Nat.le_of_ble_eq_true rfl)
theorem B_X10_isHostile_23 {o : q_H} {w : Nat} (hw : q_W w) (d : Nat) (x1 x2 y0 : Int32) (g : Nat → Nat → Int32) : q_sem (d) mX10_isHostile 23 [.ref w, .int x1, .int x2] [.int y0] (q_K o g) = (if y0 = 0 then some (some (.int 1), q_K o g) else some (some (.int 0), q_K o g)) := by
  refine (q_blk (Y := mX10_isHostile) (q_dcC dX10_isHostile_23 q_dcN) (show _ = some ((if q_cc .ne y0 0 = true then 30 else 26), [.ref w, .int x1, .int x2], []) from rfl)).trans ?_
  by_cases c1 : y0 = 0
  · rw [if_neg (show ¬ q_cc .ne y0 0 = true from fun z => (of_decide_eq_true z : ¬ y0 = 0) c1)]
    refine Eq.trans ?_ (if_pos c1).symm
    refine (q_blk (Y := mX10_isHostile) (q_dcC dX10_isHostile_26 (q_dcC dX10_isHostile_27 q_dcN)) (show _ = some (31, [.ref w, .int x1, .int x2], [.int 1]) from rfl)).trans ?_
    exact k_iret (Y := mX10_isHostile) dX10_isHostile_31 rfl
  · rw [if_pos (show q_cc .ne y0 0 = true from decide_eq_true c1)]
    refine Eq.trans ?_ (if_neg c1).symm
    refine (q_blk (Y := mX10_isHostile) (q_dcC dX10_isHostile_30 q_dcN) (show _ = some (31, [.ref w, .int x1, .int x2], [.int 0]) from rfl)).trans ?_
    exact k_iret (Y := mX10_isHostile) dX10_isHostile_31 rfl
theorem B_X10_isHostile_55 {o : q_H} {w : Nat} (hw : q_W w) (d : Nat) (x1 x2 y0 y1 y2 : Int32) (g : Nat → Nat → Int32) : q_sem (d + 1) mX10_isHostile 55 [.ref w, .int x1, .int x2] [.int y0, .int y1, .int y2, .ref (w + 15)] (q_K o g) = (q_sem d mX7_get 0 [.ref (w + 11), .int x1, .int 10] [] (q_K o g)).bind (fun r => q_sem (d + 1) mX10_isHostile 65 [.ref w, .int x1, .int x2] (r.1.toList ++ [.int y0, .int y1, .int y2, .ref (w + 15)]) r.2) := by
  refine (q_blk (Y := mX10_isHostile) (q_dcC dX10_isHostile_55 q_dcN) (show _ = some (56, [.ref w, .int x1, .int x2], [.ref w, .int y0, .int y1, .int y2, .ref (w + 15)]) from rfl)).trans ?_
  refine (k_getr (Y := mX10_isHostile) dX10_isHostile_56 rfl rfl (W_is0 hw) (by decide) (W_r0_5 hw)).trans ?_
  refine (q_blk (Y := mX10_isHostile) (q_dcC dX10_isHostile_59 (q_dcC dX10_isHostile_60 q_dcN)) (show _ = some (62, [.ref w, .int x1, .int x2], [.int 10, .int x1, .ref (w + 11), .int y0, .int y1, .int y2, .ref (w + 15)]) from rfl)).trans ?_
  exact K_calV (d := d) (Y := mX10_isHostile) (Z := mX7_get) (vs := [.int x1, .int 10]) (rest := [.int y0, .int y1, .int y2, .ref (w + 15)]) (la := [.ref (w + 11), .int x1, .int 10]) dX10_isHostile_62 rfl rfl rfl rfl (W_is11 hw) (Nat.le_of_ble_eq_true rfl) rfl (Nat.le_of_ble_eq_true rfl)
theorem B_X10_isHostile_65 {o : q_H} {w : Nat} (hw : q_W w) (d : Nat) (x1 x2 y0 y1 y2 y3 : Int32) (g : Nat → Nat → Int32) : q_sem (d + 1) mX10_isHostile 65 [.ref w, .int x1, .int x2] [.int y0, .int y1, .int y2, .int y3, .ref (w + 15)] (q_K o g) = (q_sem d mX7_get 0 [.ref (w + 11), .int x1, .int 5] [] (q_K o g)).bind (fun r => q_sem (d + 1) mX10_isHostile 74 [.ref w, .int x1, .int x2] (r.1.toList ++ [.int y0, .int y1, .int y2, .int y3, .ref (w + 15)]) r.2) := by
  refine (q_blk (Y := mX10_isHostile) (q_dcC dX10_isHostile_65 q_dcN) (show _ = some (66, [.ref w, .int x1, .int x2], [.ref w, .int y0, .int y1, .int y2, .int y3, .ref (w + 15)]) from rfl)).trans ?_
  refine (k_getr (Y := mX10_isHostile) dX10_isHostile_66 rfl rfl (W_is0 hw) (by decide) (W_r0_5 hw)).trans ?_
  refine (q_blk (Y := mX10_isHostile) (q_dcC dX10_isHostile_69 (q_dcC dX10_isHostile_70 q_dcN)) (show _ = some (71, [.ref w, .int x1, .int x2], [.int 5, .int x1, .ref (w + 11), .int y0, .int y1, .int y2, .int y3, .ref (w + 15)]) from rfl)).trans ?_
  exact K_calV (d := d) (Y := mX10_isHostile) (Z := mX7_get) (vs := [.int x1, .int 5]) (rest := [.int y0, .int y1, .int y2, .int y3, .ref (w + 15)]) (la := [.ref (w + 11), .int x1, .int 5]) dX10_isHostile_71 rfl rfl rfl rfl (W_is11 hw) (Nat.le_of_ble_eq_true rfl) rfl (Nat.le_of_ble_eq_true rfl)
theorem B_X10_isHostile_74 {o : q_H} {w : Nat} (hw : q_W w) (d : Nat) (x1 x2 y0 y1 y2 y3 y4 : Int32) (g : Nat → Nat → Int32) : q_sem (d + 1) mX10_isHostile 74 [.ref w, .int x1, .int x2] [.int y0, .int y1, .int y2, .int y3, .int y4, .ref (w + 15)] (q_K o g) = (q_sem d mX5_worth 0 [.ref (w + 15), .int y4, .int y3, .int y2, .int y1, .int y0, .retAddr 0, .retAddr 0, .retAddr 0] [] (q_K o g)).bind (fun r => q_sem (d + 1) mX10_isHostile 77 [.ref w, .int x1, .int x2] (r.1.toList ++ []) r.2) := by
  exact K_calV (d := d) (Y := mX10_isHostile) (Z := mX5_worth) (vs := [.int y4, .int y3, .int y2, .int y1, .int y0]) (rest := []) (la := [.ref (w + 15), .int y4, .int y3, .int y2, .int y1, .int y0, .retAddr 0, .retAddr 0, .retAddr 0]) dX10_isHostile_74 rfl rfl rfl rfl (W_is15 hw) (Nat.le_of_ble_eq_true rfl) rfl (Nat.le_of_ble_eq_true rfl)
theorem B_X10_isHostile_77 {o : q_H} {w : Nat} (hw : q_W w) (d : Nat) (x1 x2 y0 : Int32) (g : Nat → Nat → Int32) : q_sem (d) mX10_isHostile 77 [.ref w, .int x1, .int x2] [.int y0] (q_K o g) = (if y0 = 0 then some (some (.int 0), q_K o g) else some (some (.int 1), q_K o g)) := by
  refine (q_blk (Y := mX10_isHostile) (q_dcC dX10_isHostile_77 q_dcN) (show _ = some ((if q_cc .eq y0 0 = true then 84 else 80), [.ref w, .int x1, .int x2], []) from rfl)).trans ?_
  by_cases c1 : y0 = 0
  · rw [if_pos (show q_cc .eq y0 0 = true from decide_eq_true c1)]
    refine Eq.trans ?_ (if_pos c1).symm
    refine (q_blk (Y := mX10_isHostile) (q_dcC dX10_isHostile_84 q_dcN) (show _ = some (85, [.ref w, .int x1, .int x2], [.int 0]) from rfl)).trans ?_
    exact k_iret (Y := mX10_isHostile) dX10_isHostile_85 rfl
  · rw [if_neg (show ¬ q_cc .eq y0 0 = true from fun z => c1 (of_decide_eq_true z))]
    refine Eq.trans ?_ (if_neg c1).symm
    refine (q_blk (Y := mX10_isHostile) (q_dcC dX10_isHostile_80 (q_dcC dX10_isHostile_81 q_dcN)) (show _ = some (85, [.ref w, .int x1, .int x2], [.int 1]) from rfl)).trans ?_
    exact k_iret (Y := mX10_isHostile) dX10_isHostile_85 rfl
theorem B_X10_keptDown_0 {o : q_H} {w : Nat} (hw : q_W w) (d : Nat) (g : Nat → Nat → Int32) : q_sem (d + 1) mX10_keptDown 0 [.ref w, .retAddr 0, .retAddr 0] [] (q_K o g) = (q_sem d mX5_inForce 0 [.ref (w + 15), .int 2, .int (g w 8), .retAddr 0] [] (q_K o g)).bind (fun r => q_sem (d + 1) mX10_keptDown 12 [.ref w, .retAddr 0, .retAddr 0] (r.1.toList ++ []) r.2) := by
  refine (q_blk (Y := mX10_keptDown) (q_dcC dX10_keptDown_0 q_dcN) (show _ = some (1, [.ref w, .retAddr 0, .retAddr 0], [.ref w]) from rfl)).trans ?_
  refine (k_getr (Y := mX10_keptDown) dX10_keptDown_1 rfl rfl (W_is0 hw) (by decide) (W_r0_7 hw)).trans ?_
  refine (q_blk (Y := mX10_keptDown) (q_dcC dX10_keptDown_4 (q_dcC dX10_keptDown_5 q_dcN)) (show _ = some (6, [.ref w, .retAddr 0, .retAddr 0], [.ref w, .int 2, .ref (w + 15)]) from rfl)).trans ?_
  refine (k_geti (Y := mX10_keptDown) dX10_keptDown_6 rfl rfl (W_is0 hw) (by decide) (W_n0_8 hw)).trans ?_
  exact K_calV (d := d) (Y := mX10_keptDown) (Z := mX5_inForce) (vs := [.int 2, .int (g w 8)]) (rest := []) (la := [.ref (w + 15), .int 2, .int (g w 8), .retAddr 0]) dX10_keptDown_9 rfl rfl rfl rfl (W_is15 hw) (Nat.le_of_ble_eq_true rfl) rfl (Nat.le_of_ble_eq_true rfl)
theorem B_X10_keptDown_12 {o : q_H} {w : Nat} (hw : q_W w) (d : Nat) (y0 : Int32) (g : Nat → Nat → Int32) : q_sem (d + 1) mX10_keptDown 12 [.ref w, .retAddr 0, .retAddr 0] [.int y0] (q_K o g) = (if 0 ≤ y0 then (q_sem d mX10_howMany 0 [.ref w, .int 4, .int 1, .retAddr 0, .retAddr 0] [] (q_K o g)).bind (fun r => q_sem (d + 1) mX10_keptDown 30 [.ref w, .int y0, .retAddr 0] (r.1.toList ++ [.int y0, .ref (w + 15)]) r.2) else some (some (.int 0), q_K o g)) := by
  refine (q_blk (Y := mX10_keptDown) (q_dcC dX10_keptDown_12 (q_dcC dX10_keptDown_13 (q_dcC dX10_keptDown_14 q_dcN))) (show _ = some ((if q_cc .ge y0 0 = true then 19 else 17), [.ref w, .int y0, .retAddr 0], []) from rfl)).trans ?_
  by_cases c1 : 0 ≤ y0
  · rw [if_pos (show q_cc .ge y0 0 = true from decide_eq_true c1)]
    refine Eq.trans ?_ (if_pos c1).symm
    refine (q_blk (Y := mX10_keptDown) (q_dcC dX10_keptDown_19 q_dcN) (show _ = some (20, [.ref w, .int y0, .retAddr 0], [.ref w]) from rfl)).trans ?_
    refine (k_getr (Y := mX10_keptDown) dX10_keptDown_20 rfl rfl (W_is0 hw) (by decide) (W_r0_7 hw)).trans ?_
    refine (q_blk (Y := mX10_keptDown) (q_dcC dX10_keptDown_23 (q_dcC dX10_keptDown_24 (q_dcC dX10_keptDown_25 (q_dcC dX10_keptDown_26 q_dcN)))) (show _ = some (27, [.ref w, .int y0, .retAddr 0], [.int 1, .int 4, .ref w, .int y0, .ref (w + 15)]) from rfl)).trans ?_
    exact K_calV (d := d) (Y := mX10_keptDown) (Z := mX10_howMany) (vs := [.int 4, .int 1]) (rest := [.int y0, .ref (w + 15)]) (la := [.ref w, .int 4, .int 1, .retAddr 0, .retAddr 0]) dX10_keptDown_27 rfl rfl rfl rfl (W_is0 hw) (Nat.le_of_ble_eq_true rfl) rfl (Nat.le_of_ble_eq_true rfl)
  · rw [if_neg (show ¬ q_cc .ge y0 0 = true from fun z => c1 (of_decide_eq_true z))]
    refine Eq.trans ?_ (if_neg c1).symm
    refine (q_blk (Y := mX10_keptDown) (q_dcC dX10_keptDown_17 q_dcN) (show _ = some (18, [.ref w, .int y0, .retAddr 0], [.int 0]) from rfl)).trans ?_
    exact k_iret (Y := mX10_keptDown) dX10_keptDown_18 rfl
theorem B_X10_keptDown_30 {o : q_H} {w : Nat} (hw : q_W w) (d : Nat) (x1 y0 y1 : Int32) (g : Nat → Nat → Int32) : q_sem (d + 1) mX10_keptDown 30 [.ref w, .int x1, .retAddr 0] [.int y0, .int y1, .ref (w + 15)] (q_K o g) = (q_sem d mX10_howMany 0 [.ref w, .int 4, .int 0, .retAddr 0, .retAddr 0] [] (q_K o g)).bind (fun r => q_sem (d + 1) mX10_keptDown 36 [.ref w, .int x1, .retAddr 0] (r.1.toList ++ [.int y0, .int y1, .ref (w + 15)]) r.2) := by
  refine (q_blk (Y := mX10_keptDown) (q_dcC dX10_keptDown_30 (q_dcC dX10_keptDown_31 (q_dcC dX10_keptDown_32 q_dcN))) (show _ = some (33, [.ref w, .int x1, .retAddr 0], [.int 0, .int 4, .ref w, .int y0, .int y1, .ref (w + 15)]) from rfl)).trans ?_
  exact K_calV (d := d) (Y := mX10_keptDown) (Z := mX10_howMany) (vs := [.int 4, .int 0]) (rest := [.int y0, .int y1, .ref (w + 15)]) (la := [.ref w, .int 4, .int 0, .retAddr 0, .retAddr 0]) dX10_keptDown_33 rfl rfl rfl rfl (W_is0 hw) (Nat.le_of_ble_eq_true rfl) rfl (Nat.le_of_ble_eq_true rfl)
theorem B_X10_keptDown_36 {o : q_H} {w : Nat} (hw : q_W w) (d : Nat) (x1 y0 y1 y2 : Int32) (g : Nat → Nat → Int32) : q_sem (d + 1) mX10_keptDown 36 [.ref w, .int x1, .retAddr 0] [.int y0, .int y1, .int y2, .ref (w + 15)] (q_K o g) = (q_sem d mX5_worth 0 [.ref (w + 15), .int y2, .int y1, .int y0, .int 0, .int 0, .retAddr 0, .retAddr 0, .retAddr 0] [] (q_K o g)).bind (fun r => q_sem (d + 1) mX10_keptDown 41 [.ref w, .int x1, .retAddr 0] (r.1.toList ++ []) r.2) := by
  refine (q_blk (Y := mX10_keptDown) (q_dcC dX10_keptDown_36 (q_dcC dX10_keptDown_37 q_dcN)) (show _ = some (38, [.ref w, .int x1, .retAddr 0], [.int 0, .int 0, .int y0, .int y1, .int y2, .ref (w + 15)]) from rfl)).trans ?_
  exact K_calV (d := d) (Y := mX10_keptDown) (Z := mX5_worth) (vs := [.int y2, .int y1, .int y0, .int 0, .int 0]) (rest := []) (la := [.ref (w + 15), .int y2, .int y1, .int y0, .int 0, .int 0, .retAddr 0, .retAddr 0, .retAddr 0]) dX10_keptDown_38 rfl rfl rfl rfl (W_is15 hw) (Nat.le_of_ble_eq_true rfl) rfl (Nat.le_of_ble_eq_true rfl)
theorem B_X10_keptDown_41 {o : q_H} {w : Nat} (hw : q_W w) (d : Nat) (x1 y0 : Int32) (g : Nat → Nat → Int32) : q_sem (d) mX10_keptDown 41 [.ref w, .int x1, .retAddr 0] [.int y0] (q_K o g) = some (some (.int (if 0 < (if 16 < y0 then 16 else y0) then (if 16 < y0 then 16 else y0) else 0)), q_K o g) := by
  refine (q_blk (Y := mX10_keptDown) (q_dcC dX10_keptDown_41 (q_dcC dX10_keptDown_42 (q_dcC dX10_keptDown_43 (q_dcC dX10_keptDown_44 q_dcN)))) (show _ = some (46, [.ref w, .int x1, .int y0], [.int 16, .int y0, .int 0]) from rfl)).trans ?_
  refine (k_min (Y := mX10_keptDown) dX10_keptDown_46 rfl rfl (by decide) (by decide) (by decide) (Nat.le_of_ble_eq_true rfl)).trans ?_
  refine (k_max (Y := mX10_keptDown) dX10_keptDown_49 rfl rfl (by decide) (by decide) (Nat.le_of_ble_eq_true rfl)).trans ?_
  exact k_iret (Y := mX10_keptDown) dX10_keptDown_52 rfl
theorem B_X10_isArmed_0 {o : q_H} {w : Nat} (hw : q_W w) (d : Nat) (x1 : Int32) (g : Nat → Nat → Int32) : q_sem (d + 1) mX10_isArmed 0 [.ref w, .int x1] [] (q_K o g) = (q_sem d mX7_get 0 [.ref (w + 11), .int x1, .int 8] [] (q_K o g)).bind (fun r => q_sem (d + 1) mX10_isArmed 10 [.ref w, .int x1] (r.1.toList ++ []) r.2) := by
  refine (q_blk (Y := mX10_isArmed) (q_dcC dX10_isArmed_0 q_dcN) (show _ = some (1, [.ref w, .int x1], [.ref w]) from rfl)).trans ?_
  refine (k_getr (Y := mX10_isArmed) dX10_isArmed_1 rfl rfl (W_is0 hw) (by decide) (W_r0_5 hw)).trans ?_
  refine (q_blk (Y := mX10_isArmed) (q_dcC dX10_isArmed_4 (q_dcC dX10_isArmed_5 q_dcN)) (show _ = some (7, [.ref w, .int x1], [.int 8, .int x1, .ref (w + 11)]) from rfl)).trans ?_
  exact K_calV (d := d) (Y := mX10_isArmed) (Z := mX7_get) (vs := [.int x1, .int 8]) (rest := []) (la := [.ref (w + 11), .int x1, .int 8]) dX10_isArmed_7 rfl rfl rfl rfl (W_is11 hw) (Nat.le_of_ble_eq_true rfl) rfl (Nat.le_of_ble_eq_true rfl)
theorem B_X10_isArmed_10 {o : q_H} {w : Nat} (hw : q_W w) (d : Nat) (x1 y0 : Int32) (g : Nat → Nat → Int32) : q_sem (d + 1) mX10_isArmed 10 [.ref w, .int x1] [.int y0] (q_K o g) = (if y0 ≤ 0 then some (some (.int 0), q_K o g) else (q_sem d mX7_get 0 [.ref (w + 11), .int x1, .int 7] [] (q_K o g)).bind (fun r => q_sem (d + 1) mX10_isArmed 23 [.ref w, .int x1] (r.1.toList ++ []) r.2)) := by
  refine (q_blk (Y := mX10_isArmed) (q_dcC dX10_isArmed_10 q_dcN) (show _ = some ((if q_cc .le y0 0 = true then 30 else 13), [.ref w, .int x1], []) from rfl)).trans ?_
  by_cases c1 : y0 ≤ 0
  · rw [if_pos (show q_cc .le y0 0 = true from decide_eq_true c1)]
    refine Eq.trans ?_ (if_pos c1).symm
    refine (q_blk (Y := mX10_isArmed) (q_dcC dX10_isArmed_30 q_dcN) (show _ = some (31, [.ref w, .int x1], [.int 0]) from rfl)).trans ?_
    exact k_iret (Y := mX10_isArmed) dX10_isArmed_31 rfl
  · rw [if_neg (show ¬ q_cc .le y0 0 = true from fun z => c1 (of_decide_eq_true z))]
    refine Eq.trans ?_ (if_neg c1).symm
    refine (q_blk (Y := mX10_isArmed) (q_dcC dX10_isArmed_13 q_dcN) (show _ = some (14, [.ref w, .int x1], [.ref w]) from rfl)).trans ?_
    refine (k_getr (Y := mX10_isArmed) dX10_isArmed_14 rfl rfl (W_is0 hw) (by decide) (W_r0_5 hw)).trans ?_
    refine (q_blk (Y := mX10_isArmed) (q_dcC dX10_isArmed_17 (q_dcC dX10_isArmed_18 q_dcN)) (show _ = some (20, [.ref w, .int x1], [.int 7, .int x1, .ref (w + 11)]) from rfl)).trans ?_
    exact K_calV (d := d) (Y := mX10_isArmed) (Z := mX7_get) (vs := [.int x1, .int 7]) (rest := []) (la := [.ref (w + 11), .int x1, .int 7]) dX10_isArmed_20 rfl rfl rfl rfl (W_is11 hw) (Nat.le_of_ble_eq_true rfl) rfl (Nat.le_of_ble_eq_true rfl)
theorem B_X10_isArmed_23 {o : q_H} {w : Nat} (hw : q_W w) (d : Nat) (x1 y0 : Int32) (g : Nat → Nat → Int32) : q_sem (d) mX10_isArmed 23 [.ref w, .int x1] [.int y0] (q_K o g) = (if y0 ≤ 0 then some (some (.int 0), q_K o g) else some (some (.int 1), q_K o g)) := by
  refine (q_blk (Y := mX10_isArmed) (q_dcC dX10_isArmed_23 q_dcN) (show _ = some ((if q_cc .le y0 0 = true then 30 else 26), [.ref w, .int x1], []) from rfl)).trans ?_
  by_cases c1 : y0 ≤ 0
  · rw [if_pos (show q_cc .le y0 0 = true from decide_eq_true c1)]
    refine Eq.trans ?_ (if_pos c1).symm
    refine (q_blk (Y := mX10_isArmed) (q_dcC dX10_isArmed_30 q_dcN) (show _ = some (31, [.ref w, .int x1], [.int 0]) from rfl)).trans ?_
    exact k_iret (Y := mX10_isArmed) dX10_isArmed_31 rfl
  · rw [if_neg (show ¬ q_cc .le y0 0 = true from fun z => c1 (of_decide_eq_true z))]
    refine Eq.trans ?_ (if_neg c1).symm
    refine (q_blk (Y := mX10_isArmed) (q_dcC dX10_isArmed_26 (q_dcC dX10_isArmed_27 q_dcN)) (show _ = some (31, [.ref w, .int x1], [.int 1]) from rfl)).trans ?_
    exact k_iret (Y := mX10_isArmed) dX10_isArmed_31 rfl
theorem B_X10_minutesToMeet_0 {o : q_H} {w : Nat} (hw : q_W w) (d : Nat) (x1 x2 : Int32) (g : Nat → Nat → Int32) : q_sem (d + 1) mX10_minutesToMeet 0 [.ref w, .int x1, .int x2, .retAddr 0, .retAddr 0, .retAddr 0, .retAddr 0, .retAddr 0, .retAddr 0] [] (q_K o g) = (q_sem d mX10_isArmed 0 [.ref w, .int x1] [] (q_K o g)).bind (fun r => q_sem (d + 1) mX10_minutesToMeet 5 [.ref w, .int x1, .int x2, .retAddr 0, .retAddr 0, .retAddr 0, .retAddr 0, .retAddr 0, .retAddr 0] (r.1.toList ++ []) r.2) := by
  refine (q_blk (Y := mX10_minutesToMeet) (q_dcC dX10_minutesToMeet_0 (q_dcC dX10_minutesToMeet_1 q_dcN)) (show _ = some (2, [.ref w, .int x1, .int x2, .retAddr 0, .retAddr 0, .retAddr 0, .retAddr 0, .retAddr 0, .retAddr 0], [.int x1, .ref w]) from rfl)).trans ?_
  exact K_calV (d := d) (Y := mX10_minutesToMeet) (Z := mX10_isArmed) (vs := [.int x1]) (rest := []) (la := [.ref w, .int x1]) dX10_minutesToMeet_2 rfl rfl rfl rfl (W_is0 hw) (Nat.le_of_ble_eq_true rfl) rfl (Nat.le_of_ble_eq_true rfl)
theorem B_X10_minutesToMeet_5 {o : q_H} {w : Nat} (hw : q_W w) (d : Nat) (x1 x2 y0 : Int32) (g : Nat → Nat → Int32) : q_sem (d + 1) mX10_minutesToMeet 5 [.ref w, .int x1, .int x2, .retAddr 0, .retAddr 0, .retAddr 0, .retAddr 0, .retAddr 0, .retAddr 0] [.int y0] (q_K o g) = (if y0 = 0 then some (some (.int (-1)), q_K o g) else (q_sem d mX7_get 0 [.ref (w + 11), .int x1, .int 7] [] (q_K o g)).bind (fun r => q_sem (d + 1) mX10_minutesToMeet 22 [.ref w, .int x1, .int x2, .retAddr 0, .retAddr 0, .retAddr 0, .retAddr 0, .retAddr 0, .retAddr 0] (r.1.toList ++ [.int 60]) r.2)) := by
  refine (q_blk (Y := mX10_minutesToMeet) (q_dcC dX10_minutesToMeet_5 q_dcN) (show _ = some ((if q_cc .ne y0 0 = true then 10 else 8), [.ref w, .int x1, .int x2, .retAddr 0, .retAddr 0, .retAddr 0, .retAddr 0, .retAddr 0, .retAddr 0], []) from rfl)).trans ?_
  by_cases c1 : y0 = 0
  · rw [if_neg (show ¬ q_cc .ne y0 0 = true from fun z => (of_decide_eq_true z : ¬ y0 = 0) c1)]
    refine Eq.trans ?_ (if_pos c1).symm
    refine (q_blk (Y := mX10_minutesToMeet) (q_dcC dX10_minutesToMeet_8 q_dcN) (show _ = some (9, [.ref w, .int x1, .int x2, .retAddr 0, .retAddr 0, .retAddr 0, .retAddr 0, .retAddr 0, .retAddr 0], [.int (-1)]) from rfl)).trans ?_
    exact k_iret (Y := mX10_minutesToMeet) dX10_minutesToMeet_9 rfl
  · rw [if_pos (show q_cc .ne y0 0 = true from decide_eq_true c1)]
    refine Eq.trans ?_ (if_neg c1).symm
    refine (q_blk (Y := mX10_minutesToMeet) (q_dcC dX10_minutesToMeet_10 (q_dcC dX10_minutesToMeet_12 q_dcN)) (show _ = some (13, [.ref w, .int x1, .int x2, .retAddr 0, .retAddr 0, .retAddr 0, .retAddr 0, .retAddr 0, .retAddr 0], [.ref w, .int 60]) from rfl)).trans ?_
    refine (k_getr (Y := mX10_minutesToMeet) dX10_minutesToMeet_13 rfl rfl (W_is0 hw) (by decide) (W_r0_5 hw)).trans ?_
    refine (q_blk (Y := mX10_minutesToMeet) (q_dcC dX10_minutesToMeet_16 (q_dcC dX10_minutesToMeet_17 q_dcN)) (show _ = some (19, [.ref w, .int x1, .int x2, .retAddr 0, .retAddr 0, .retAddr 0, .retAddr 0, .retAddr 0, .retAddr 0], [.int 7, .int x1, .ref (w + 11), .int 60]) from rfl)).trans ?_
    exact K_calV (d := d) (Y := mX10_minutesToMeet) (Z := mX7_get) (vs := [.int x1, .int 7]) (rest := [.int 60]) (la := [.ref (w + 11), .int x1, .int 7]) dX10_minutesToMeet_19 rfl rfl rfl rfl (W_is11 hw) (Nat.le_of_ble_eq_true rfl) rfl (Nat.le_of_ble_eq_true rfl)
theorem B_X10_minutesToMeet_22 {o : q_H} {w : Nat} (hw : q_W w) (d : Nat) (x1 x2 y0 y1 : Int32) (g : Nat → Nat → Int32) : q_sem (d + 1) mX10_minutesToMeet 22 [.ref w, .int x1, .int x2, .retAddr 0, .retAddr 0, .retAddr 0, .retAddr 0, .retAddr 0, .retAddr 0] [.int y0, .int y1] (q_K o g) = (q_sem d mX7_get 0 [.ref (w + 11), .int x1, .int 1] [] (q_K o g)).bind (fun r => q_sem (d + 1) mX10_minutesToMeet 35 [.ref w, .int x1, .int x2, .int (if y0 < y1 then y0 else y1), .retAddr 0, .retAddr 0, .retAddr 0, .retAddr 0, .retAddr 0] (r.1.toList ++ []) r.2) := by
  refine (k_min (Y := mX10_minutesToMeet) dX10_minutesToMeet_22 rfl rfl (by decide) (by decide) (by decide) (Nat.le_of_ble_eq_true rfl)).trans ?_
  refine (q_blk (Y := mX10_minutesToMeet) (q_dcC dX10_minutesToMeet_25 (q_dcC dX10_minutesToMeet_26 q_dcN)) (show _ = some (27, [.ref w, .int x1, .int x2, .int (if y0 < y1 then y0 else y1), .retAddr 0, .retAddr 0, .retAddr 0, .retAddr 0, .retAddr 0], [.ref w]) from rfl)).trans ?_
  refine (k_getr (Y := mX10_minutesToMeet) dX10_minutesToMeet_27 rfl rfl (W_is0 hw) (by decide) (W_r0_5 hw)).trans ?_
  refine (q_blk (Y := mX10_minutesToMeet) (q_dcC dX10_minutesToMeet_30 (q_dcC dX10_minutesToMeet_31 q_dcN)) (show _ = some (32, [.ref w, .int x1, .int x2, .int (if y0 < y1 then y0 else y1), .retAddr 0, .retAddr 0, .retAddr 0, .retAddr 0, .retAddr 0], [.int 1, .int x1, .ref (w + 11)]) from rfl)).trans ?_
  exact K_calV (d := d) (Y := mX10_minutesToMeet) (Z := mX7_get) (vs := [.int x1, .int 1]) (rest := []) (la := [.ref (w + 11), .int x1, .int 1]) dX10_minutesToMeet_32 rfl rfl rfl rfl (W_is11 hw) (Nat.le_of_ble_eq_true rfl) rfl (Nat.le_of_ble_eq_true rfl)
theorem B_X10_minutesToMeet_35 {o : q_H} {w : Nat} (hw : q_W w) (d : Nat) (x1 x2 x3 y0 : Int32) (g : Nat → Nat → Int32) : q_sem (d + 1) mX10_minutesToMeet 35 [.ref w, .int x1, .int x2, .int x3, .retAddr 0, .retAddr 0, .retAddr 0, .retAddr 0, .retAddr 0] [.int y0] (q_K o g) = (q_sem d mX7_get 0 [.ref (w + 11), .int x1, .int 2] [] (q_K o g)).bind (fun r => q_sem (d + 1) mX10_minutesToMeet 46 [.ref w, .int x1, .int x2, .int x3, .int y0, .retAddr 0, .retAddr 0, .retAddr 0, .retAddr 0] (r.1.toList ++ []) r.2) := by
  refine (q_blk (Y := mX10_minutesToMeet) (q_dcC dX10_minutesToMeet_35 (q_dcC dX10_minutesToMeet_37 q_dcN)) (show _ = some (38, [.ref w, .int x1, .int x2, .int x3, .int y0, .retAddr 0, .retAddr 0, .retAddr 0, .retAddr 0], [.ref w]) from rfl)).trans ?_
  refine (k_getr (Y := mX10_minutesToMeet) dX10_minutesToMeet_38 rfl rfl (W_is0 hw) (by decide) (W_r0_5 hw)).trans ?_
  refine (q_blk (Y := mX10_minutesToMeet) (q_dcC dX10_minutesToMeet_41 (q_dcC dX10_minutesToMeet_42 q_dcN)) (show _ = some (43, [.ref w, .int x1, .int x2, .int x3, .int y0, .retAddr 0, .retAddr 0, .retAddr 0, .retAddr 0], [.int 2, .int x1, .ref (w + 11)]) from rfl)).trans ?_
  exact K_calV (d := d) (Y := mX10_minutesToMeet) (Z := mX7_get) (vs := [.int x1, .int 2]) (rest := []) (la := [.ref (w + 11), .int x1, .int 2]) dX10_minutesToMeet_43 rfl rfl rfl rfl (W_is11 hw) (Nat.le_of_ble_eq_true rfl) rfl (Nat.le_of_ble_eq_true rfl)
theorem B_X10_minutesToMeet_46 {o : q_H} {w : Nat} (hw : q_W w) (d : Nat) (x1 x2 x3 x4 y0 : Int32) (g : Nat → Nat → Int32) : q_sem (d + 1) mX10_minutesToMeet 46 [.ref w, .int x1, .int x2, .int x3, .int x4, .retAddr 0, .retAddr 0, .retAddr 0, .retAddr 0] [.int y0] (q_K o g) = (q_sem d mX7_get 0 [.ref (w + 11), .int x2, .int 1] [] (q_K o g)).bind (fun r => q_sem (d + 1) mX10_minutesToMeet 57 [.ref w, .int x1, .int x2, .int x3, .int x4, .int y0, .retAddr 0, .retAddr 0, .retAddr 0] (r.1.toList ++ []) r.2) := by
  refine (q_blk (Y := mX10_minutesToMeet) (q_dcC dX10_minutesToMeet_46 (q_dcC dX10_minutesToMeet_48 q_dcN)) (show _ = some (49, [.ref w, .int x1, .int x2, .int x3, .int x4, .int y0, .retAddr 0, .retAddr 0, .retAddr 0], [.ref w]) from rfl)).trans ?_
  refine (k_getr (Y := mX10_minutesToMeet) dX10_minutesToMeet_49 rfl rfl (W_is0 hw) (by decide) (W_r0_5 hw)).trans ?_
  refine (q_blk (Y := mX10_minutesToMeet) (q_dcC dX10_minutesToMeet_52 (q_dcC dX10_minutesToMeet_53 q_dcN)) (show _ = some (54, [.ref w, .int x1, .int x2, .int x3, .int x4, .int y0, .retAddr 0, .retAddr 0, .retAddr 0], [.int 1, .int x2, .ref (w + 11)]) from rfl)).trans ?_
  exact K_calV (d := d) (Y := mX10_minutesToMeet) (Z := mX7_get) (vs := [.int x2, .int 1]) (rest := []) (la := [.ref (w + 11), .int x2, .int 1]) dX10_minutesToMeet_54 rfl rfl rfl rfl (W_is11 hw) (Nat.le_of_ble_eq_true rfl) rfl (Nat.le_of_ble_eq_true rfl)
theorem B_X10_minutesToMeet_57 {o : q_H} {w : Nat} (hw : q_W w) (d : Nat) (x1 x2 x3 x4 x5 y0 : Int32) (g : Nat → Nat → Int32) : q_sem (d + 1) mX10_minutesToMeet 57 [.ref w, .int x1, .int x2, .int x3, .int x4, .int x5, .retAddr 0, .retAddr 0, .retAddr 0] [.int y0] (q_K o g) = (q_sem d mX7_get 0 [.ref (w + 11), .int x2, .int 2] [] (q_K o g)).bind (fun r => q_sem (d + 1) mX10_minutesToMeet 68 [.ref w, .int x1, .int x2, .int x3, .int x4, .int x5, .int y0, .retAddr 0, .retAddr 0] (r.1.toList ++ []) r.2) := by
  refine (q_blk (Y := mX10_minutesToMeet) (q_dcC dX10_minutesToMeet_57 (q_dcC dX10_minutesToMeet_59 q_dcN)) (show _ = some (60, [.ref w, .int x1, .int x2, .int x3, .int x4, .int x5, .int y0, .retAddr 0, .retAddr 0], [.ref w]) from rfl)).trans ?_
  refine (k_getr (Y := mX10_minutesToMeet) dX10_minutesToMeet_60 rfl rfl (W_is0 hw) (by decide) (W_r0_5 hw)).trans ?_
  refine (q_blk (Y := mX10_minutesToMeet) (q_dcC dX10_minutesToMeet_63 (q_dcC dX10_minutesToMeet_64 q_dcN)) (show _ = some (65, [.ref w, .int x1, .int x2, .int x3, .int x4, .int x5, .int y0, .retAddr 0, .retAddr 0], [.int 2, .int x2, .ref (w + 11)]) from rfl)).trans ?_
  exact K_calV (d := d) (Y := mX10_minutesToMeet) (Z := mX7_get) (vs := [.int x2, .int 2]) (rest := []) (la := [.ref (w + 11), .int x2, .int 2]) dX10_minutesToMeet_65 rfl rfl rfl rfl (W_is11 hw) (Nat.le_of_ble_eq_true rfl) rfl (Nat.le_of_ble_eq_true rfl)
theorem B_X10_minutesToMeet_68 {o : q_H} {w : Nat} (hw : q_W w) (d : Nat) (x1 x2 x3 x4 x5 x6 y0 : Int32) (g : Nat → Nat → Int32) : q_sem (d) mX10_minutesToMeet 68 [.ref w, .int x1, .int x2, .int x3, .int x4, .int x5, .int x6, .retAddr 0, .retAddr 0] [.int y0] (q_K o g) = q_sem (d) mX10_minutesToMeet 73 [.ref w, .int x1, .int x2, .int x3, .int x4, .int x5, .int x6, .int y0, .int 1] [] (q_K o g) := by
  refine (q_blk (Y := mX10_minutesToMeet) (q_dcC dX10_minutesToMeet_68 (q_dcC dX10_minutesToMeet_70 (q_dcC dX10_minutesToMeet_71 q_dcN))) (show _ = some (73, [.ref w, .int x1, .int x2, .int x3, .int x4, .int x5, .int x6, .int y0, .int 1], []) from rfl)).trans ?_
  rfl
theorem B_X10_minutesToMeet_73 {o : q_H} {w : Nat} (hw : q_W w) (d : Nat) (x1 x2 x3 x4 x5 x6 x7 x8 : Int32) (g : Nat → Nat → Int32) : q_sem (d + 1) mX10_minutesToMeet 73 [.ref w, .int x1, .int x2, .int x3, .int x4, .int x5, .int x6, .int x7, .int x8] [] (q_K o g) = (if x3 < x8 then some (some (.int (-1)), q_K o g) else (q_sem d mX7_get 0 [.ref (w + 11), .int x2, .int 4] [] (q_K o g)).bind (fun r => q_sem (d + 1) mX10_minutesToMeet 90 [.ref w, .int x1, .int x2, .int x3, .int x4, .int x5, .int x6, .int x7, .int x8] (r.1.toList ++ [.int x6]) r.2)) := by
  refine (q_blk (Y := mX10_minutesToMeet) (q_dcC dX10_minutesToMeet_73 (q_dcC dX10_minutesToMeet_75 (q_dcC dX10_minutesToMeet_76 q_dcN))) (show _ = some ((if q_cc .gt x8 x3 = true then 152 else 79), [.ref w, .int x1, .int x2, .int x3, .int x4, .int x5, .int x6, .int x7, .int x8], []) from rfl)).trans ?_
  by_cases c1 : x3 < x8
  · rw [if_pos (show q_cc .gt x8 x3 = true from decide_eq_true c1)]
    refine Eq.trans ?_ (if_pos c1).symm
    refine (q_blk (Y := mX10_minutesToMeet) (q_dcC dX10_minutesToMeet_152 q_dcN) (show _ = some (153, [.ref w, .int x1, .int x2, .int x3, .int x4, .int x5, .int x6, .int x7, .int x8], [.int (-1)]) from rfl)).trans ?_
    exact k_iret (Y := mX10_minutesToMeet) dX10_minutesToMeet_153 rfl
  · rw [if_neg (show ¬ q_cc .gt x8 x3 = true from fun z => c1 (of_decide_eq_true z))]
    refine Eq.trans ?_ (if_neg c1).symm
    refine (q_blk (Y := mX10_minutesToMeet) (q_dcC dX10_minutesToMeet_79 (q_dcC dX10_minutesToMeet_81 q_dcN)) (show _ = some (82, [.ref w, .int x1, .int x2, .int x3, .int x4, .int x5, .int x6, .int x7, .int x8], [.ref w, .int x6]) from rfl)).trans ?_
    refine (k_getr (Y := mX10_minutesToMeet) dX10_minutesToMeet_82 rfl rfl (W_is0 hw) (by decide) (W_r0_5 hw)).trans ?_
    refine (q_blk (Y := mX10_minutesToMeet) (q_dcC dX10_minutesToMeet_85 (q_dcC dX10_minutesToMeet_86 q_dcN)) (show _ = some (87, [.ref w, .int x1, .int x2, .int x3, .int x4, .int x5, .int x6, .int x7, .int x8], [.int 4, .int x2, .ref (w + 11), .int x6]) from rfl)).trans ?_
    exact K_calV (d := d) (Y := mX10_minutesToMeet) (Z := mX7_get) (vs := [.int x2, .int 4]) (rest := [.int x6]) (la := [.ref (w + 11), .int x2, .int 4]) dX10_minutesToMeet_87 rfl rfl rfl rfl (W_is11 hw) (Nat.le_of_ble_eq_true rfl) rfl (Nat.le_of_ble_eq_true rfl)
theorem B_X10_minutesToMeet_90 {o : q_H} {w : Nat} (hw : q_W w) (d : Nat) (x1 x2 x3 x4 x5 x6 x7 x8 y0 y1 : Int32) (g : Nat → Nat → Int32) : q_sem (d + 1) mX10_minutesToMeet 90 [.ref w, .int x1, .int x2, .int x3, .int x4, .int x5, .int x6, .int x7, .int x8] [.int y0, .int y1] (q_K o g) = (q_sem d mX7_get 0 [.ref (w + 11), .int x2, .int 3] [] (q_K o g)).bind (fun r => q_sem (d + 1) mX10_minutesToMeet 99 [.ref w, .int x1, .int x2, .int x3, .int x4, .int x5, .int x6, .int x7, .int x8] (r.1.toList ++ [.int y0, .int y1]) r.2) := by
  refine (q_blk (Y := mX10_minutesToMeet) (q_dcC dX10_minutesToMeet_90 q_dcN) (show _ = some (91, [.ref w, .int x1, .int x2, .int x3, .int x4, .int x5, .int x6, .int x7, .int x8], [.ref w, .int y0, .int y1]) from rfl)).trans ?_
  refine (k_getr (Y := mX10_minutesToMeet) dX10_minutesToMeet_91 rfl rfl (W_is0 hw) (by decide) (W_r0_5 hw)).trans ?_
  refine (q_blk (Y := mX10_minutesToMeet) (q_dcC dX10_minutesToMeet_94 (q_dcC dX10_minutesToMeet_95 q_dcN)) (show _ = some (96, [.ref w, .int x1, .int x2, .int x3, .int x4, .int x5, .int x6, .int x7, .int x8], [.int 3, .int x2, .ref (w + 11), .int y0, .int y1]) from rfl)).trans ?_
  exact K_calV (d := d) (Y := mX10_minutesToMeet) (Z := mX7_get) (vs := [.int x2, .int 3]) (rest := [.int y0, .int y1]) (la := [.ref (w + 11), .int x2, .int 3]) dX10_minutesToMeet_96 rfl rfl rfl rfl (W_is11 hw) (Nat.le_of_ble_eq_true rfl) rfl (Nat.le_of_ble_eq_true rfl)
theorem B_X10_minutesToMeet_99 {o : q_H} {w : Nat} (hw : q_W w) (d : Nat) (x1 x2 x3 x4 x5 x6 x7 x8 y0 y1 y2 : Int32) (g : Nat → Nat → Int32) : q_sem (d + 1) mX10_minutesToMeet 99 [.ref w, .int x1, .int x2, .int x3, .int x4, .int x5, .int x6, .int x7, .int x8] [.int y0, .int y1, .int y2] (q_K o g) = (q_sem d mX3_flown 0 [.int y2, .int y1, .int y0, .retAddr 0, .retAddr 0] [] (q_K o g)).bind (fun r => q_sem (d + 1) mX10_minutesToMeet 102 [.ref w, .int x1, .int x2, .int x3, .int x4, .int x5, .int x6, .int x7, .int x8] (r.1.toList ++ []) r.2) := by
  exact K_calS (d := d) (Y := mX10_minutesToMeet) (Z := mX3_flown) (vs := [.int y2, .int y1, .int y0]) (rest := []) (la := [.int y2, .int y1, .int y0, .retAddr 0, .retAddr 0]) dX10_minutesToMeet_99 rfl rfl rfl rfl (Nat.le_of_ble_eq_true rfl) rfl (Nat.le_of_ble_eq_true rfl)
theorem B_X10_minutesToMeet_102 {o : q_H} {w : Nat} (hw : q_W w) (d : Nat) (x1 x2 x3 x4 x5 x6 x7 x8 y0 : Int32) (g : Nat → Nat → Int32) : q_sem (d + 1) mX10_minutesToMeet 102 [.ref w, .int x1, .int x2, .int x3, .int x4, .int x5, .int x6, .int x7, .int x8] [.int y0] (q_K o g) = (if 0 ≤ y0 then (q_sem d mX3_climbed 0 [.int x5, .int x7] [] (q_K o g)).bind (fun r => q_sem (d + 1) mX10_minutesToMeet 118 [.ref w, .int x1, .int x2, .int x3, .int x4, .int x5, .int y0, .int x7, .int x8] (r.1.toList ++ []) r.2) else some (some (.int (-1)), q_K o g)) := by
  refine (q_blk (Y := mX10_minutesToMeet) (q_dcC dX10_minutesToMeet_102 (q_dcC dX10_minutesToMeet_104 (q_dcC dX10_minutesToMeet_106 q_dcN))) (show _ = some ((if q_cc .ge y0 0 = true then 111 else 109), [.ref w, .int x1, .int x2, .int x3, .int x4, .int x5, .int y0, .int x7, .int x8], []) from rfl)).trans ?_
  by_cases c1 : 0 ≤ y0
  · rw [if_pos (show q_cc .ge y0 0 = true from decide_eq_true c1)]
    refine Eq.trans ?_ (if_pos c1).symm
    refine (q_blk (Y := mX10_minutesToMeet) (q_dcC dX10_minutesToMeet_111 (q_dcC dX10_minutesToMeet_113 q_dcN)) (show _ = some (115, [.ref w, .int x1, .int x2, .int x3, .int x4, .int x5, .int y0, .int x7, .int x8], [.int x7, .int x5]) from rfl)).trans ?_
    exact K_calS (d := d) (Y := mX10_minutesToMeet) (Z := mX3_climbed) (vs := [.int x5, .int x7]) (rest := []) (la := [.int x5, .int x7]) dX10_minutesToMeet_115 rfl rfl rfl rfl (Nat.le_of_ble_eq_true rfl) rfl (Nat.le_of_ble_eq_true rfl)
  · rw [if_neg (show ¬ q_cc .ge y0 0 = true from fun z => c1 (of_decide_eq_true z))]
    refine Eq.trans ?_ (if_neg c1).symm
    refine (q_blk (Y := mX10_minutesToMeet) (q_dcC dX10_minutesToMeet_109 q_dcN) (show _ = some (110, [.ref w, .int x1, .int x2, .int x3, .int x4, .int x5, .int y0, .int x7, .int x8], [.int (-1)]) from rfl)).trans ?_
    exact k_iret (Y := mX10_minutesToMeet) dX10_minutesToMeet_110 rfl
theorem B_X10_minutesToMeet_118 {o : q_H} {w : Nat} (hw : q_W w) (d : Nat) (x1 x2 x3 x4 x5 x6 x7 x8 y0 : Int32) (g : Nat → Nat → Int32) : q_sem (d + 1) mX10_minutesToMeet 118 [.ref w, .int x1, .int x2, .int x3, .int x4, .int x5, .int x6, .int x7, .int x8] [.int y0] (q_K o g) = (q_sem d mX3_nearer 0 [.int x4, .int x6] [] (q_K o g)).bind (fun r => q_sem (d + 1) mX10_minutesToMeet 127 [.ref w, .int x1, .int x2, .int x3, .int x4, .int y0, .int x6, .int x7, .int x8] (r.1.toList ++ []) r.2) := by
  refine (q_blk (Y := mX10_minutesToMeet) (q_dcC dX10_minutesToMeet_118 (q_dcC dX10_minutesToMeet_120 (q_dcC dX10_minutesToMeet_122 q_dcN))) (show _ = some (124, [.ref w, .int x1, .int x2, .int x3, .int x4, .int y0, .int x6, .int x7, .int x8], [.int x6, .int x4]) from rfl)).trans ?_
  exact K_calS (d := d) (Y := mX10_minutesToMeet) (Z := mX3_nearer) (vs := [.int x4, .int x6]) (rest := []) (la := [.int x4, .int x6]) dX10_minutesToMeet_124 rfl rfl rfl rfl (Nat.le_of_ble_eq_true rfl) rfl (Nat.le_of_ble_eq_true rfl)
theorem B_X10_minutesToMeet_127 {o : q_H} {w : Nat} (hw : q_W w) (d : Nat) (x1 x2 x3 x4 x5 x6 x7 x8 y0 : Int32) (g : Nat → Nat → Int32) : q_sem (d + 1) mX10_minutesToMeet 127 [.ref w, .int x1, .int x2, .int x3, .int x4, .int x5, .int x6, .int x7, .int x8] [.int y0] (q_K o g) = (q_sem d mX10_meets 0 [.int y0, .int x5, .int x6, .int x7] [] (q_K o g)).bind (fun r => q_sem (d + 1) mX10_minutesToMeet 140 [.ref w, .int x1, .int x2, .int x3, .int y0, .int x5, .int x6, .int x7, .int x8] (r.1.toList ++ []) r.2) := by
  refine (q_blk (Y := mX10_minutesToMeet) (q_dcC dX10_minutesToMeet_127 (q_dcC dX10_minutesToMeet_129 (q_dcC dX10_minutesToMeet_131 (q_dcC dX10_minutesToMeet_133 (q_dcC dX10_minutesToMeet_135 q_dcN))))) (show _ = some (137, [.ref w, .int x1, .int x2, .int x3, .int y0, .int x5, .int x6, .int x7, .int x8], [.int x7, .int x6, .int x5, .int y0]) from rfl)).trans ?_
  exact K_calS (d := d) (Y := mX10_minutesToMeet) (Z := mX10_meets) (vs := [.int y0, .int x5, .int x6, .int x7]) (rest := []) (la := [.int y0, .int x5, .int x6, .int x7]) dX10_minutesToMeet_137 rfl rfl rfl rfl (Nat.le_of_ble_eq_true rfl) rfl (Nat.le_of_ble_eq_true rfl)
theorem B_X10_minutesToMeet_140 {o : q_H} {w : Nat} (hw : q_W w) (d : Nat) (x1 x2 x3 x4 x5 x6 x7 x8 y0 : Int32) (g : Nat → Nat → Int32) : q_sem (d) mX10_minutesToMeet 140 [.ref w, .int x1, .int x2, .int x3, .int x4, .int x5, .int x6, .int x7, .int x8] [.int y0] (q_K o g) = (if y0 = 0 then q_sem (d) mX10_minutesToMeet 73 [.ref w, .int x1, .int x2, .int x3, .int x4, .int x5, .int x6, .int x7, .int (x8 + 1)] [] (q_K o g) else some (some (.int x8), q_K o g)) := by
  refine (q_blk (Y := mX10_minutesToMeet) (q_dcC dX10_minutesToMeet_140 q_dcN) (show _ = some ((if q_cc .eq y0 0 = true then 146 else 143), [.ref w, .int x1, .int x2, .int x3, .int x4, .int x5, .int x6, .int x7, .int x8], []) from rfl)).trans ?_
  by_cases c1 : y0 = 0
  · rw [if_pos (show q_cc .eq y0 0 = true from decide_eq_true c1)]
    refine Eq.trans ?_ (if_pos c1).symm
    refine (q_blk (Y := mX10_minutesToMeet) (q_dcC dX10_minutesToMeet_146 (q_dcC dX10_minutesToMeet_149 q_dcN)) (show _ = some (73, [.ref w, .int x1, .int x2, .int x3, .int x4, .int x5, .int x6, .int x7, .int (x8 + 1)], []) from rfl)).trans ?_
    rfl
  · rw [if_neg (show ¬ q_cc .eq y0 0 = true from fun z => c1 (of_decide_eq_true z))]
    refine Eq.trans ?_ (if_neg c1).symm
    refine (q_blk (Y := mX10_minutesToMeet) (q_dcC dX10_minutesToMeet_143 q_dcN) (show _ = some (145, [.ref w, .int x1, .int x2, .int x3, .int x4, .int x5, .int x6, .int x7, .int x8], [.int x8]) from rfl)).trans ?_
    exact k_iret (Y := mX10_minutesToMeet) dX10_minutesToMeet_145 rfl
theorem B_X10_meets_0 {o : q_H} (d : Nat) (x0 x1 x2 x3 : Int32) (g : Nat → Nat → Int32) : q_sem (d + 1) mX10_meets 0 [.int x0, .int x1, .int x2, .int x3] [] (q_K o g) = (if x1 < x3 then some (some (.int 0), q_K o g) else (q_sem d mX3_apart 0 [.int x0, .int x2] [] (q_K o g)).bind (fun r => q_sem (d + 1) mX10_meets 10 [.int x0, .int x1, .int x2, .int x3] (r.1.toList ++ []) r.2)) := by
  refine (q_blk (Y := mX10_meets) (q_dcC dX10_meets_0 (q_dcC dX10_meets_1 (q_dcC dX10_meets_2 q_dcN))) (show _ = some ((if q_cc .lt x1 x3 = true then 18 else 5), [.int x0, .int x1, .int x2, .int x3], []) from rfl)).trans ?_
  by_cases c1 : x1 < x3
  · rw [if_pos (show q_cc .lt x1 x3 = true from decide_eq_true c1)]
    refine Eq.trans ?_ (if_pos c1).symm
    refine (q_blk (Y := mX10_meets) (q_dcC dX10_meets_18 q_dcN) (show _ = some (19, [.int x0, .int x1, .int x2, .int x3], [.int 0]) from rfl)).trans ?_
    exact k_iret (Y := mX10_meets) dX10_meets_19 rfl
  · rw [if_neg (show ¬ q_cc .lt x1 x3 = true from fun z => c1 (of_decide_eq_true z))]
    refine Eq.trans ?_ (if_neg c1).symm
    refine (q_blk (Y := mX10_meets) (q_dcC dX10_meets_5 (q_dcC dX10_meets_6 q_dcN)) (show _ = some (7, [.int x0, .int x1, .int x2, .int x3], [.int x2, .int x0]) from rfl)).trans ?_
    exact K_calS (d := d) (Y := mX10_meets) (Z := mX3_apart) (vs := [.int x0, .int x2]) (rest := []) (la := [.int x0, .int x2]) dX10_meets_7 rfl rfl rfl rfl (Nat.le_of_ble_eq_true rfl) rfl (Nat.le_of_ble_eq_true rfl)
theorem B_X10_meets_10 {o : q_H} (d : Nat) (x0 x1 x2 x3 y0 : Int32) (g : Nat → Nat → Int32) : q_sem (d) mX10_meets 10 [.int x0, .int x1, .int x2, .int x3] [.int y0] (q_K o g) = (if 1 < y0 then some (some (.int 0), q_K o g) else some (some (.int 1), q_K o g)) := by
  refine (q_blk (Y := mX10_meets) (q_dcC dX10_meets_10 (q_dcC dX10_meets_11 q_dcN)) (show _ = some ((if q_cc .gt y0 1 = true then 18 else 14), [.int x0, .int x1, .int x2, .int x3], []) from rfl)).trans ?_
  by_cases c1 : 1 < y0
  · rw [if_pos (show q_cc .gt y0 1 = true from decide_eq_true c1)]
    refine Eq.trans ?_ (if_pos c1).symm
    refine (q_blk (Y := mX10_meets) (q_dcC dX10_meets_18 q_dcN) (show _ = some (19, [.int x0, .int x1, .int x2, .int x3], [.int 0]) from rfl)).trans ?_
    exact k_iret (Y := mX10_meets) dX10_meets_19 rfl
  · rw [if_neg (show ¬ q_cc .gt y0 1 = true from fun z => c1 (of_decide_eq_true z))]
    refine Eq.trans ?_ (if_neg c1).symm
    refine (q_blk (Y := mX10_meets) (q_dcC dX10_meets_14 (q_dcC dX10_meets_15 q_dcN)) (show _ = some (19, [.int x0, .int x1, .int x2, .int x3], [.int 1]) from rfl)).trans ?_
    exact k_iret (Y := mX10_meets) dX10_meets_19 rfl
