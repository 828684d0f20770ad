theorem dX0_read_0 : decode cX0_read 0 = .ok (.aload_n 0, 1) := by decide +kernel
theorem dX0_read_1 : decode cX0_read 1 = .ok (.getfield 14, 3) := by decide +kernel
theorem dX0_read_4 : decode cX0_read 4 = .ok (.invokevirtual 25, 3) := by decide +kernel
theorem dX0_read_8 : decode cX0_read 8 = .ok (.iload_n 2, 1) := by decide +kernel
theorem dX0_read_7 : decode cX0_read 7 = .ok (.aload_n 1, 1) := by decide +kernel
theorem dX0_read_9 : decode cX0_read 9 = .ok (.invokevirtual 28, 3) := by decide +kernel
theorem dX0_read_16 : decode cX0_read 16 = .ok (.ifCond .eq 17, 3) := by decide +kernel
theorem dX0_read_14 : decode cX0_read 14 = .ok (.iload 4, 2) := by decide +kernel
theorem dX0_read_12 : decode cX0_read 12 = .ok (.istore 4, 2) := by decide +kernel
theorem dX0_read_33 : decode cX0_read 33 = .ok (.iconst 0, 1) := by decide +kernel
theorem dX0_read_34 : decode cX0_read 34 = .ok (.ireturn, 1) := by decide +kernel
theorem dX0_read_23 : decode cX0_read 23 = .ok (.ifCond .ne 10, 3) := by decide +kernel
theorem dX0_read_22 : decode cX0_read 22 = .ok (.irem, 1) := by decide +kernel
theorem dX0_read_21 : decode cX0_read 21 = .ok (.iconst 3, 1) := by decide +kernel
theorem dX0_read_19 : decode cX0_read 19 = .ok (.iload 4, 2) := by decide +kernel
theorem dX0_read_30 : decode cX0_read 30 = .ok (.if_icmp .le 5, 3) := by decide +kernel
theorem dX0_read_28 : decode cX0_read 28 = .ok (.bipush 24, 2) := by decide +kernel
theorem dX0_read_26 : decode cX0_read 26 = .ok (.iload 4, 2) := by decide +kernel
theorem dX0_read_36 : decode cX0_read 36 = .ok (.istore 5, 2) := by decide +kernel
theorem dX0_read_35 : decode cX0_read 35 = .ok (.iconst 0, 1) := by decide +kernel
theorem dX0_read_41 : decode cX0_read 41 = .ok (.iload_n 3, 1) := by decide +kernel
theorem dX0_read_40 : decode cX0_read 40 = .ok (.aload_n 1, 1) := by decide +kernel
theorem dX0_read_38 : decode cX0_read 38 = .ok (.iload 5, 2) := by decide +kernel
theorem dX0_read_42 : decode cX0_read 42 = .ok (.invokevirtual 28, 3) := by decide +kernel
theorem dX0_read_45 : decode cX0_read 45 = .ok (.if_icmp .ge 24, 3) := by decide +kernel
theorem dX0_read_70 : decode cX0_read 70 = .ok (.istore 5, 2) := by decide +kernel
theorem dX0_read_69 : decode cX0_read 69 = .ok (.iconst 0, 1) := by decide +kernel
theorem dX0_read_50 : decode cX0_read 50 = .ok (.iload 5, 2) := by decide +kernel
theorem dX0_read_49 : decode cX0_read 49 = .ok (.iload_n 3, 1) := by decide +kernel
theorem dX0_read_48 : decode cX0_read 48 = .ok (.aload_n 1, 1) := by decide +kernel
theorem dX0_read_52 : decode cX0_read 52 = .ok (.invokevirtual 34, 3) := by decide +kernel
theorem dX0_read_76 : decode cX0_read 76 = .ok (.if_icmp .ge 98, 3) := by decide +kernel
theorem dX0_read_74 : decode cX0_read 74 = .ok (.iload 4, 2) := by decide +kernel
theorem dX0_read_72 : decode cX0_read 72 = .ok (.iload 5, 2) := by decide +kernel
theorem dX0_read_174 : decode cX0_read 174 = .ok (.iconst 1, 1) := by decide +kernel
theorem dX0_read_175 : decode cX0_read 175 = .ok (.ireturn, 1) := by decide +kernel
theorem dX0_read_81 : decode cX0_read 81 = .ok (.iload 5, 2) := by decide +kernel
theorem dX0_read_80 : decode cX0_read 80 = .ok (.iload_n 2, 1) := by decide +kernel
theorem dX0_read_79 : decode cX0_read 79 = .ok (.aload_n 1, 1) := by decide +kernel
theorem dX0_read_83 : decode cX0_read 83 = .ok (.invokevirtual 34, 3) := by decide +kernel
theorem dX0_read_55 : decode cX0_read 55 = .ok (.invokestatic 38, 3) := by decide +kernel
theorem dX0_read_93 : decode cX0_read 93 = .ok (.iadd, 1) := by decide +kernel
theorem dX0_read_92 : decode cX0_read 92 = .ok (.iconst 1, 1) := by decide +kernel
theorem dX0_read_90 : decode cX0_read 90 = .ok (.iload 5, 2) := by decide +kernel
theorem dX0_read_89 : decode cX0_read 89 = .ok (.iload_n 2, 1) := by decide +kernel
theorem dX0_read_88 : decode cX0_read 88 = .ok (.aload_n 1, 1) := by decide +kernel
theorem dX0_read_86 : decode cX0_read 86 = .ok (.istore 6, 2) := by decide +kernel
theorem dX0_read_94 : decode cX0_read 94 = .ok (.invokevirtual 34, 3) := by decide +kernel
theorem dX0_read_58 : decode cX0_read 58 = .ok (.ifCond .ne 5, 3) := by decide +kernel
theorem dX0_read_61 : decode cX0_read 61 = .ok (.iconst 0, 1) := by decide +kernel
theorem dX0_read_62 : decode cX0_read 62 = .ok (.ireturn, 1) := by decide +kernel
theorem dX0_read_66 : decode cX0_read 66 = .ok (.goto (-28), 3) := by decide +kernel
theorem dX0_read_63 : decode cX0_read 63 = .ok (.iinc 5 1, 3) := by decide +kernel
theorem dX0_read_104 : decode cX0_read 104 = .ok (.iadd, 1) := by decide +kernel
theorem dX0_read_103 : decode cX0_read 103 = .ok (.iconst 2, 1) := by decide +kernel
theorem dX0_read_101 : decode cX0_read 101 = .ok (.iload 5, 2) := by decide +kernel
theorem dX0_read_100 : decode cX0_read 100 = .ok (.iload_n 2, 1) := by decide +kernel
theorem dX0_read_99 : decode cX0_read 99 = .ok (.aload_n 1, 1) := by decide +kernel
theorem dX0_read_97 : decode cX0_read 97 = .ok (.istore 7, 2) := by decide +kernel
theorem dX0_read_105 : decode cX0_read 105 = .ok (.invokevirtual 34, 3) := by decide +kernel
theorem dX0_read_113 : decode cX0_read 113 = .ok (.bipush 15, 2) := by decide +kernel
theorem dX0_read_112 : decode cX0_read 112 = .ok (.iconst 0, 1) := by decide +kernel
theorem dX0_read_110 : decode cX0_read 110 = .ok (.iload 6, 2) := by decide +kernel
theorem dX0_read_108 : decode cX0_read 108 = .ok (.istore 8, 2) := by decide +kernel
theorem dX0_read_115 : decode cX0_read 115 = .ok (.invokestatic 44, 3) := by decide +kernel
theorem dX0_read_118 : decode cX0_read 118 = .ok (.ifCond .eq 25, 3) := by decide +kernel
theorem dX0_read_143 : decode cX0_read 143 = .ok (.iconst 0, 1) := by decide +kernel
theorem dX0_read_144 : decode cX0_read 144 = .ok (.ireturn, 1) := by decide +kernel
theorem dX0_read_124 : decode cX0_read 124 = .ok (.bipush 15, 2) := by decide +kernel
theorem dX0_read_123 : decode cX0_read 123 = .ok (.iconst 0, 1) := by decide +kernel
theorem dX0_read_121 : decode cX0_read 121 = .ok (.iload 7, 2) := by decide +kernel
theorem dX0_read_126 : decode cX0_read 126 = .ok (.invokestatic 44, 3) := by decide +kernel
theorem dX0_read_129 : decode cX0_read 129 = .ok (.ifCond .eq 14, 3) := by decide +kernel
theorem dX0_read_135 : decode cX0_read 135 = .ok (.bipush 15, 2) := by decide +kernel
theorem dX0_read_134 : decode cX0_read 134 = .ok (.iconst 1, 1) := by decide +kernel
theorem dX0_read_132 : decode cX0_read 132 = .ok (.iload 8, 2) := by decide +kernel
theorem dX0_read_137 : decode cX0_read 137 = .ok (.invokestatic 44, 3) := by decide +kernel
theorem dX0_read_140 : decode cX0_read 140 = .ok (.ifCond .ne 5, 3) := by decide +kernel
theorem dX0_read_145 : decode cX0_read 145 = .ok (.aload_n 0, 1) := by decide +kernel
theorem dX0_read_146 : decode cX0_read 146 = .ok (.getfield 14, 3) := by decide +kernel
theorem dX0_read_159 : decode cX0_read 159 = .ok (.iload 8, 2) := by decide +kernel
theorem dX0_read_158 : decode cX0_read 158 = .ok (.iadd, 1) := by decide +kernel
theorem dX0_read_156 : decode cX0_read 156 = .ok (.iload 6, 2) := by decide +kernel
theorem dX0_read_155 : decode cX0_read 155 = .ok (.imul, 1) := by decide +kernel
theorem dX0_read_153 : decode cX0_read 153 = .ok (.iload 7, 2) := by decide +kernel
theorem dX0_read_151 : decode cX0_read 151 = .ok (.bipush 16, 2) := by decide +kernel
theorem dX0_read_150 : decode cX0_read 150 = .ok (.iload_n 3, 1) := by decide +kernel
theorem dX0_read_149 : decode cX0_read 149 = .ok (.aload_n 1, 1) := by decide +kernel
theorem dX0_read_161 : decode cX0_read 161 = .ok (.invokestatic 50, 3) := by decide +kernel
theorem dX0_read_164 : decode cX0_read 164 = .ok (.invokevirtual 54, 3) := by decide +kernel
theorem dX0_read_171 : decode cX0_read 171 = .ok (.goto (-99), 3) := by decide +kernel
theorem dX0_read_168 : decode cX0_read 168 = .ok (.iinc 5 3, 3) := by decide +kernel
theorem dX0_read_167 : decode cX0_read 167 = .ok (.pop, 1) := by decide +kernel
theorem dX0_seen_4 : decode cX0_seen 4 = .ok (.istore 5, 2) := by decide +kernel
theorem dX0_seen_3 : decode cX0_seen 3 = .ok (.iconst 0, 1) := by decide +kernel
theorem dX0_seen_1 : decode cX0_seen 1 = .ok (.istore 4, 2) := by decide +kernel
theorem dX0_seen_0 : decode cX0_seen 0 = .ok (.iconst 0, 1) := by decide +kernel
theorem dX0_seen_9 : decode cX0_seen 9 = .ok (.iload_n 1, 1) := by decide +kernel
theorem dX0_seen_8 : decode cX0_seen 8 = .ok (.aload_n 0, 1) := by decide +kernel
theorem dX0_seen_6 : decode cX0_seen 6 = .ok (.iload 5, 2) := by decide +kernel
theorem dX0_seen_10 : decode cX0_seen 10 = .ok (.invokevirtual 28, 3) := by decide +kernel
theorem dX0_seen_13 : decode cX0_seen 13 = .ok (.if_icmp .ge 33, 3) := by decide +kernel
theorem dX0_seen_46 : decode cX0_seen 46 = .ok (.iload 4, 2) := by decide +kernel
theorem dX0_seen_48 : decode cX0_seen 48 = .ok (.ireturn, 1) := by decide +kernel
theorem dX0_seen_19 : decode cX0_seen 19 = .ok (.iload 5, 2) := by decide +kernel
theorem dX0_seen_18 : decode cX0_seen 18 = .ok (.iload_n 1, 1) := by decide +kernel
theorem dX0_seen_17 : decode cX0_seen 17 = .ok (.aload_n 0, 1) := by decide +kernel
theorem dX0_seen_16 : decode cX0_seen 16 = .ok (.iload_n 2, 1) := by decide +kernel
theorem dX0_seen_21 : decode cX0_seen 21 = .ok (.invokevirtual 34, 3) := by decide +kernel
theorem dX0_seen_24 : decode cX0_seen 24 = .ok (.iload_n 3, 1) := by decide +kernel
theorem dX0_seen_25 : decode cX0_seen 25 = .ok (.invokestatic 57, 3) := by decide +kernel
theorem dX0_seen_28 : decode cX0_seen 28 = .ok (.ifCond .eq 12, 3) := by decide +kernel
theorem dX0_seen_43 : decode cX0_seen 43 = .ok (.goto (-37), 3) := by decide +kernel
theorem dX0_seen_40 : decode cX0_seen 40 = .ok (.iinc 5 1, 3) := by decide +kernel
theorem dX0_seen_38 : decode cX0_seen 38 = .ok (.istore 4, 2) := by decide +kernel
theorem dX0_seen_37 : decode cX0_seen 37 = .ok (.ior, 1) := by decide +kernel
theorem dX0_seen_36 : decode cX0_seen 36 = .ok (.ishl, 1) := by decide +kernel
theorem dX0_seen_34 : decode cX0_seen 34 = .ok (.iload 5, 2) := by decide +kernel
theorem dX0_seen_33 : decode cX0_seen 33 = .ok (.iconst 1, 1) := by decide +kernel
theorem dX0_seen_31 : decode cX0_seen 31 = .ok (.iload 4, 2) := by decide +kernel
theorem dX0_masts_0 : decode cX0_masts 0 = .ok (.aload_n 0, 1) := by decide +kernel
theorem dX0_masts_1 : decode cX0_masts 1 = .ok (.getfield 14, 3) := by decide +kernel
theorem dX0_masts_4 : decode cX0_masts 4 = .ok (.invokevirtual 60, 3) := by decide +kernel
theorem dX0_masts_7 : decode cX0_masts 7 = .ok (.ireturn, 1) := by decide +kernel
theorem dX0_choose_1 : decode cX0_choose 1 = .ok (.iconst (-1), 1) := by decide +kernel
theorem dX0_choose_0 : decode cX0_choose 0 = .ok (.aload_n 0, 1) := by decide +kernel
theorem dX0_choose_2 : decode cX0_choose 2 = .ok (.putfield 18, 3) := by decide +kernel
theorem dX0_choose_6 : decode cX0_choose 6 = .ok (.iconst 0, 1) := by decide +kernel
theorem dX0_choose_5 : decode cX0_choose 5 = .ok (.aload_n 0, 1) := by decide +kernel
theorem dX0_choose_7 : decode cX0_choose 7 = .ok (.putfield 22, 3) := by decide +kernel
theorem dX0_choose_11 : decode cX0_choose 11 = .ok (.istore_n 2, 1) := by decide +kernel
theorem dX0_choose_10 : decode cX0_choose 10 = .ok (.iconst 0, 1) := by decide +kernel
theorem dX0_choose_14 : decode cX0_choose 14 = .ok (.aload_n 0, 1) := by decide +kernel
theorem dX0_choose_13 : decode cX0_choose 13 = .ok (.iconst 1, 1) := by decide +kernel
theorem dX0_choose_12 : decode cX0_choose 12 = .ok (.iload_n 2, 1) := by decide +kernel
theorem dX0_choose_15 : decode cX0_choose 15 = .ok (.getfield 14, 3) := by decide +kernel
theorem dX0_choose_18 : decode cX0_choose 18 = .ok (.invokevirtual 60, 3) := by decide +kernel
theorem dX0_choose_22 : decode cX0_choose 22 = .ok (.if_icmp .ge 43, 3) := by decide +kernel
theorem dX0_choose_21 : decode cX0_choose 21 = .ok (.ishl, 1) := by decide +kernel
theorem dX0_choose_65 : decode cX0_choose 65 = .ok (.return_, 1) := by decide +kernel
theorem dX0_choose_25 : decode cX0_choose 25 = .ok (.iload_n 2, 1) := by decide +kernel
theorem dX0_choose_26 : decode cX0_choose 26 = .ok (.invokestatic 63, 3) := by decide +kernel
theorem dX0_choose_30 : decode cX0_choose 30 = .ok (.if_icmp .ne 29, 3) := by decide +kernel
theorem dX0_choose_29 : decode cX0_choose 29 = .ok (.iload_n 1, 1) := by decide +kernel
theorem dX0_choose_34 : decode cX0_choose 34 = .ok (.iload_n 2, 1) := by decide +kernel
theorem dX0_choose_33 : decode cX0_choose 33 = .ok (.aload_n 0, 1) := by decide +kernel
theorem dX0_choose_35 : decode cX0_choose 35 = .ok (.invokevirtual 68, 3) := by decide +kernel
theorem dX0_choose_62 : decode cX0_choose 62 = .ok (.goto (-50), 3) := by decide +kernel
theorem dX0_choose_59 : decode cX0_choose 59 = .ok (.iinc 2 1, 3) := by decide +kernel
theorem dX0_choose_38 : decode cX0_choose 38 = .ok (.aload_n 0, 1) := by decide +kernel
theorem dX0_choose_39 : decode cX0_choose 39 = .ok (.getfield 18, 3) := by decide +kernel
theorem dX0_choose_42 : decode cX0_choose 42 = .ok (.if_icmp .le 17, 3) := by decide +kernel
theorem dX0_choose_47 : decode cX0_choose 47 = .ok (.iload_n 2, 1) := by decide +kernel
theorem dX0_choose_46 : decode cX0_choose 46 = .ok (.aload_n 0, 1) := by decide +kernel
theorem dX0_choose_45 : decode cX0_choose 45 = .ok (.aload_n 0, 1) := by decide +kernel
theorem dX0_choose_48 : decode cX0_choose 48 = .ok (.invokevirtual 68, 3) := by decide +kernel
theorem dX0_choose_51 : decode cX0_choose 51 = .ok (.putfield 18, 3) := by decide +kernel
theorem dX0_choose_55 : decode cX0_choose 55 = .ok (.iload_n 2, 1) := by decide +kernel
theorem dX0_choose_54 : decode cX0_choose 54 = .ok (.aload_n 0, 1) := by decide +kernel
theorem dX0_choose_56 : decode cX0_choose 56 = .ok (.putfield 22, 3) := by decide +kernel
theorem dX0_worst_4 : decode cX0_worst 4 = .ok (.istore_n 3, 1) := by decide +kernel
theorem dX0_worst_3 : decode cX0_worst 3 = .ok (.iconst 0, 1) := by decide +kernel
theorem dX0_worst_2 : decode cX0_worst 2 = .ok (.istore_n 2, 1) := by decide +kernel
theorem dX0_worst_0 : decode cX0_worst 0 = .ok (.bipush 24, 2) := by decide +kernel
theorem dX0_worst_6 : decode cX0_worst 6 = .ok (.aload_n 0, 1) := by decide +kernel
theorem dX0_worst_5 : decode cX0_worst 5 = .ok (.iload_n 3, 1) := by decide +kernel
theorem dX0_worst_7 : decode cX0_worst 7 = .ok (.getfield 14, 3) := by decide +kernel
theorem dX0_worst_10 : decode cX0_worst 10 = .ok (.invokevirtual 60, 3) := by decide +kernel
theorem dX0_worst_13 : decode cX0_worst 13 = .ok (.if_icmp .ge 36, 3) := by decide +kernel
theorem dX0_worst_49 : decode cX0_worst 49 = .ok (.iload_n 2, 1) := by decide +kernel
theorem dX0_worst_50 : decode cX0_worst 50 = .ok (.ireturn, 1) := by decide +kernel
theorem dX0_worst_21 : decode cX0_worst 21 = .ok (.ifCond .eq 22, 3) := by decide +kernel
theorem dX0_worst_20 : decode cX0_worst 20 = .ok (.iand, 1) := by decide +kernel
theorem dX0_worst_19 : decode cX0_worst 19 = .ok (.iconst 1, 1) := by decide +kernel
theorem dX0_worst_18 : decode cX0_worst 18 = .ok (.ishr, 1) := by decide +kernel
theorem dX0_worst_17 : decode cX0_worst 17 = .ok (.iload_n 3, 1) := by decide +kernel
theorem dX0_worst_16 : decode cX0_worst 16 = .ok (.iload_n 1, 1) := by decide +kernel
theorem dX0_worst_46 : decode cX0_worst 46 = .ok (.goto (-41), 3) := by decide +kernel
theorem dX0_worst_43 : decode cX0_worst 43 = .ok (.iinc 3 1, 3) := by decide +kernel
theorem dX0_worst_32 : decode cX0_worst 32 = .ok (.iand, 1) := by decide +kernel
theorem dX0_worst_31 : decode cX0_worst 31 = .ok (.ixor, 1) := by decide +kernel
theorem dX0_worst_30 : decode cX0_worst 30 = .ok (.iconst (-1), 1) := by decide +kernel
theorem dX0_worst_29 : decode cX0_worst 29 = .ok (.ishl, 1) := by decide +kernel
theorem dX0_worst_28 : decode cX0_worst 28 = .ok (.iload_n 3, 1) := by decide +kernel
theorem dX0_worst_27 : decode cX0_worst 27 = .ok (.iconst 1, 1) := by decide +kernel
theorem dX0_worst_26 : decode cX0_worst 26 = .ok (.iload_n 1, 1) := by decide +kernel
theorem dX0_worst_25 : decode cX0_worst 25 = .ok (.aload_n 0, 1) := by decide +kernel
theorem dX0_worst_24 : decode cX0_worst 24 = .ok (.iload_n 2, 1) := by decide +kernel
theorem dX0_worst_33 : decode cX0_worst 33 = .ok (.invokevirtual 71, 3) := by decide +kernel
theorem dX0_worst_36 : decode cX0_worst 36 = .ok (.invokestatic 63, 3) := by decide +kernel
theorem dX0_worst_39 : decode cX0_worst 39 = .ok (.invokestatic 74, 3) := by decide +kernel
theorem dX0_worst_42 : decode cX0_worst 42 = .ok (.istore_n 2, 1) := by decide +kernel
theorem dX0_together_3 : decode cX0_together 3 = .ok (.istore_n 3, 1) := by decide +kernel
theorem dX0_together_2 : decode cX0_together 2 = .ok (.iconst 0, 1) := by decide +kernel
theorem dX0_together_1 : decode cX0_together 1 = .ok (.istore_n 2, 1) := by decide +kernel
theorem dX0_together_0 : decode cX0_together 0 = .ok (.iconst 0, 1) := by decide +kernel
theorem dX0_together_5 : decode cX0_together 5 = .ok (.aload_n 0, 1) := by decide +kernel
theorem dX0_together_4 : decode cX0_together 4 = .ok (.iload_n 3, 1) := by decide +kernel
theorem dX0_together_6 : decode cX0_together 6 = .ok (.getfield 14, 3) := by decide +kernel
theorem dX0_together_9 : decode cX0_together 9 = .ok (.invokevirtual 60, 3) := by decide +kernel
theorem dX0_together_12 : decode cX0_together 12 = .ok (.if_icmp .ge 33, 3) := by decide +kernel
theorem dX0_together_45 : decode cX0_together 45 = .ok (.iload_n 2, 1) := by decide +kernel
theorem dX0_together_46 : decode cX0_together 46 = .ok (.ireturn, 1) := by decide +kernel
theorem dX0_together_21 : decode cX0_together 21 = .ok (.ifCond .eq 15, 3) := by decide +kernel
theorem dX0_together_20 : decode cX0_together 20 = .ok (.iand, 1) := by decide +kernel
theorem dX0_together_19 : decode cX0_together 19 = .ok (.iconst 1, 1) := by decide +kernel
theorem dX0_together_18 : decode cX0_together 18 = .ok (.ishr, 1) := by decide +kernel
theorem dX0_together_17 : decode cX0_together 17 = .ok (.iload_n 3, 1) := by decide +kernel
theorem dX0_together_16 : decode cX0_together 16 = .ok (.iload_n 1, 1) := by decide +kernel
theorem dX0_together_15 : decode cX0_together 15 = .ok (.iload_n 2, 1) := by decide +kernel
theorem dX0_together_42 : decode cX0_together 42 = .ok (.goto (-38), 3) := by decide +kernel
theorem dX0_together_39 : decode cX0_together 39 = .ok (.iinc 3 1, 3) := by decide +kernel
theorem dX0_together_38 : decode cX0_together 38 = .ok (.istore_n 2, 1) := by decide +kernel
theorem dX0_together_37 : decode cX0_together 37 = .ok (.ior, 1) := by decide +kernel
theorem dX0_together_36 : decode cX0_together 36 = .ok (.iconst 0, 1) := by decide +kernel
theorem dX0_together_24 : decode cX0_together 24 = .ok (.aload_n 0, 1) := by decide +kernel
theorem dX0_together_25 : decode cX0_together 25 = .ok (.getfield 14, 3) := by decide +kernel
theorem dX0_together_29 : decode cX0_together 29 = .ok (.iconst 0, 1) := by decide +kernel
theorem dX0_together_28 : decode cX0_together 28 = .ok (.iload_n 3, 1) := by decide +kernel
theorem dX0_together_30 : decode cX0_together 30 = .ok (.invokevirtual 79, 3) := by decide +kernel
theorem dX0_together_33 : decode cX0_together 33 = .ok (.goto 4, 3) := by decide +kernel
theorem dX0_best_0 : decode cX0_best 0 = .ok (.aload_n 0, 1) := by decide +kernel
theorem dX0_best_1 : decode cX0_best 1 = .ok (.getfield 18, 3) := by decide +kernel
theorem dX0_best_4 : decode cX0_best 4 = .ok (.ireturn, 1) := by decide +kernel
theorem dX0_chosen_0 : decode cX0_chosen 0 = .ok (.aload_n 0, 1) := by decide +kernel
theorem dX0_chosen_1 : decode cX0_chosen 1 = .ok (.getfield 22, 3) := by decide +kernel
theorem dX0_chosen_4 : decode cX0_chosen 4 = .ok (.ireturn, 1) := by decide +kernel
theorem dX1_begin_0 : decode cX1_begin 0 = .ok (.aload_n 0, 1) := by decide +kernel
theorem dX1_begin_1 : decode cX1_begin 1 = .ok (.getfield 14, 3) := by decide +kernel
theorem dX1_begin_4 : decode cX1_begin 4 = .ok (.invokevirtual 44, 3) := by decide +kernel
theorem dX1_begin_7 : decode cX1_begin 7 = .ok (.aload_n 0, 1) := by decide +kernel
theorem dX1_begin_8 : decode cX1_begin 8 = .ok (.getfield 18, 3) := by decide +kernel
theorem dX1_begin_11 : decode cX1_begin 11 = .ok (.invokevirtual 44, 3) := by decide +kernel
theorem dX1_begin_14 : decode cX1_begin 14 = .ok (.aload_n 0, 1) := by decide +kernel
theorem dX1_begin_15 : decode cX1_begin 15 = .ok (.getfield 21, 3) := by decide +kernel
theorem dX1_begin_18 : decode cX1_begin 18 = .ok (.invokevirtual 44, 3) := by decide +kernel
theorem dX1_begin_22 : decode cX1_begin 22 = .ok (.istore_n 1, 1) := by decide +kernel
theorem dX1_begin_21 : decode cX1_begin 21 = .ok (.iconst 0, 1) := by decide +kernel
theorem dX1_begin_26 : decode cX1_begin 26 = .ok (.if_icmp .ge 42, 3) := by decide +kernel
theorem dX1_begin_24 : decode cX1_begin 24 = .ok (.bipush 9, 2) := by decide +kernel
theorem dX1_begin_23 : decode cX1_begin 23 = .ok (.iload_n 1, 1) := by decide +kernel
theorem dX1_begin_68 : decode cX1_begin 68 = .ok (.return_, 1) := by decide +kernel
theorem dX1_begin_29 : decode cX1_begin 29 = .ok (.aload_n 0, 1) := by decide +kernel
theorem dX1_begin_30 : decode cX1_begin 30 = .ok (.getfield 21, 3) := by decide +kernel
theorem dX1_begin_33 : decode cX1_begin 33 = .ok (.iconst (-1), 1) := by decide +kernel
theorem dX1_begin_34 : decode cX1_begin 34 = .ok (.invokevirtual 47, 3) := by decide +kernel
theorem dX1_begin_39 : decode cX1_begin 39 = .ok (.istore_n 2, 1) := by decide +kernel
theorem dX1_begin_38 : decode cX1_begin 38 = .ok (.iconst 0, 1) := by decide +kernel
theorem dX1_begin_37 : decode cX1_begin 37 = .ok (.pop, 1) := by decide +kernel
theorem dX1_begin_43 : decode cX1_begin 43 = .ok (.if_icmp .ge 19, 3) := by decide +kernel
theorem dX1_begin_41 : decode cX1_begin 41 = .ok (.bipush 9, 2) := by decide +kernel
theorem dX1_begin_40 : decode cX1_begin 40 = .ok (.iload_n 2, 1) := by decide +kernel
theorem dX1_begin_65 : decode cX1_begin 65 = .ok (.goto (-42), 3) := by decide +kernel
theorem dX1_begin_62 : decode cX1_begin 62 = .ok (.iinc 1 1, 3) := by decide +kernel
theorem dX1_begin_46 : decode cX1_begin 46 = .ok (.aload_n 0, 1) := by decide +kernel
theorem dX1_begin_47 : decode cX1_begin 47 = .ok (.getfield 21, 3) := by decide +kernel
theorem dX1_begin_52 : decode cX1_begin 52 = .ok (.iconst (-1), 1) := by decide +kernel
theorem dX1_begin_51 : decode cX1_begin 51 = .ok (.iload_n 2, 1) := by decide +kernel
theorem dX1_begin_50 : decode cX1_begin 50 = .ok (.iload_n 1, 1) := by decide +kernel
theorem dX1_begin_53 : decode cX1_begin 53 = .ok (.invokevirtual 51, 3) := by decide +kernel
theorem dX1_begin_59 : decode cX1_begin 59 = .ok (.goto (-19), 3) := by decide +kernel
theorem dX1_begin_56 : decode cX1_begin 56 = .ok (.iinc 2 1, 3) := by decide +kernel
theorem dX1_allow_0 : decode cX1_allow 0 = .ok (.aload_n 0, 1) := by decide +kernel
theorem dX1_allow_1 : decode cX1_allow 1 = .ok (.getfield 21, 3) := by decide +kernel
theorem dX1_allow_6 : decode cX1_allow 6 = .ok (.iload_n 3, 1) := by decide +kernel
theorem dX1_allow_5 : decode cX1_allow 5 = .ok (.iload_n 2, 1) := by decide +kernel
theorem dX1_allow_4 : decode cX1_allow 4 = .ok (.iload_n 1, 1) := by decide +kernel
theorem dX1_allow_7 : decode cX1_allow 7 = .ok (.invokevirtual 51, 3) := by decide +kernel
theorem dX1_allow_10 : decode cX1_allow 10 = .ok (.return_, 1) := by decide +kernel
theorem dX1_solve_1 : decode cX1_solve 1 = .ok (.iload_n 1, 1) := by decide +kernel
theorem dX1_solve_0 : decode cX1_solve 0 = .ok (.aload_n 0, 1) := by decide +kernel
theorem dX1_solve_2 : decode cX1_solve 2 = .ok (.putfield 34, 3) := by decide +kernel
theorem dX1_solve_5 : decode cX1_solve 5 = .ok (.aload_n 0, 1) := by decide +kernel
theorem dX1_solve_6 : decode cX1_solve 6 = .ok (.invokevirtual 55, 3) := by decide +kernel
theorem dX1_solve_9 : decode cX1_solve 9 = .ok (.aload_n 0, 1) := by decide +kernel
theorem dX1_solve_10 : decode cX1_solve 10 = .ok (.getfield 14, 3) := by decide +kernel
theorem dX1_solve_13 : decode cX1_solve 13 = .ok (.invokevirtual 58, 3) := by decide +kernel
theorem dX1_solve_16 : decode cX1_solve 16 = .ok (.istore_n 2, 1) := by decide +kernel
theorem dX1_solve_18 : decode cX1_solve 18 = .ok (.ifCond .lt 72, 3) := by decide +kernel
theorem dX1_solve_17 : decode cX1_solve 17 = .ok (.iload_n 2, 1) := by decide +kernel
theorem dX1_solve_90 : decode cX1_solve 90 = .ok (.aload_n 0, 1) := by decide +kernel
theorem dX1_solve_91 : decode cX1_solve 91 = .ok (.invokevirtual 72, 3) := by decide +kernel
theorem dX1_solve_21 : decode cX1_solve 21 = .ok (.aload_n 0, 1) := by decide +kernel
theorem dX1_solve_22 : decode cX1_solve 22 = .ok (.getfield 27, 3) := by decide +kernel
theorem dX1_solve_26 : decode cX1_solve 26 = .ok (.iconst 0, 1) := by decide +kernel
theorem dX1_solve_25 : decode cX1_solve 25 = .ok (.iload_n 2, 1) := by decide +kernel
theorem dX1_solve_27 : decode cX1_solve 27 = .ok (.invokevirtual 62, 3) := by decide +kernel
theorem dX1_solve_94 : decode cX1_solve 94 = .ok (.return_, 1) := by decide +kernel
theorem dX1_solve_32 : decode cX1_solve 32 = .ok (.istore 4, 2) := by decide +kernel
theorem dX1_solve_31 : decode cX1_solve 31 = .ok (.iconst 0, 1) := by decide +kernel
theorem dX1_solve_30 : decode cX1_solve 30 = .ok (.istore_n 3, 1) := by decide +kernel
theorem dX1_solve_37 : decode cX1_solve 37 = .ok (.if_icmp .gt 47, 3) := by decide +kernel
theorem dX1_solve_36 : decode cX1_solve 36 = .ok (.iload_n 3, 1) := by decide +kernel
theorem dX1_solve_34 : decode cX1_solve 34 = .ok (.iload 4, 2) := by decide +kernel
theorem dX1_solve_87 : decode cX1_solve 87 = .ok (.goto (-70), 3) := by decide +kernel
theorem dX1_solve_84 : decode cX1_solve 84 = .ok (.iinc 2 (-1), 3) := by decide +kernel
theorem dX1_solve_46 : decode cX1_solve 46 = .ok (.ifCond .ne 32, 3) := by decide +kernel
theorem dX1_solve_45 : decode cX1_solve 45 = .ok (.iand, 1) := by decide +kernel
theorem dX1_solve_44 : decode cX1_solve 44 = .ok (.ixor, 1) := by decide +kernel
theorem dX1_solve_43 : decode cX1_solve 43 = .ok (.iconst (-1), 1) := by decide +kernel
theorem dX1_solve_42 : decode cX1_solve 42 = .ok (.iload_n 3, 1) := by decide +kernel
theorem dX1_solve_40 : decode cX1_solve 40 = .ok (.iload 4, 2) := by decide +kernel
theorem dX1_solve_54 : decode cX1_solve 54 = .ok (.aload_n 0, 1) := by decide +kernel
theorem dX1_solve_53 : decode cX1_solve 53 = .ok (.iload_n 2, 1) := by decide +kernel
theorem dX1_solve_51 : decode cX1_solve 51 = .ok (.iload 4, 2) := by decide +kernel
theorem dX1_solve_50 : decode cX1_solve 50 = .ok (.iload_n 2, 1) := by decide +kernel
theorem dX1_solve_49 : decode cX1_solve 49 = .ok (.aload_n 0, 1) := by decide +kernel
theorem dX1_solve_55 : decode cX1_solve 55 = .ok (.getfield 14, 3) := by decide +kernel
theorem dX1_solve_58 : decode cX1_solve 58 = .ok (.invokevirtual 58, 3) := by decide +kernel
theorem dX1_solve_81 : decode cX1_solve 81 = .ok (.goto (-47), 3) := by decide +kernel
theorem dX1_solve_78 : decode cX1_solve 78 = .ok (.iinc 4 1, 3) := by decide +kernel
theorem dX1_solve_61 : decode cX1_solve 61 = .ok (.if_icmp .ne 7, 3) := by decide +kernel
theorem dX1_solve_65 : decode cX1_solve 65 = .ok (.goto 10, 3) := by decide +kernel
theorem dX1_solve_64 : decode cX1_solve 64 = .ok (.iconst 0, 1) := by decide +kernel
theorem dX1_solve_75 : decode cX1_solve 75 = .ok (.invokevirtual 69, 3) := by decide +kernel
theorem dX1_solve_70 : decode cX1_solve 70 = .ok (.iload 4, 2) := by decide +kernel
theorem dX1_solve_69 : decode cX1_solve 69 = .ok (.iload_n 2, 1) := by decide +kernel
theorem dX1_solve_68 : decode cX1_solve 68 = .ok (.aload_n 0, 1) := by decide +kernel
theorem dX1_solve_72 : decode cX1_solve 72 = .ok (.invokevirtual 66, 3) := by decide +kernel
theorem dX1_lookAhead_0 : decode cX1_lookAhead 0 = .ok (.aload_n 0, 1) := by decide +kernel
theorem dX1_lookAhead_1 : decode cX1_lookAhead 1 = .ok (.getfield 27, 3) := by decide +kernel
theorem dX1_lookAhead_4 : decode cX1_lookAhead 4 = .ok (.invokevirtual 44, 3) := by decide +kernel
theorem dX1_lookAhead_10 : decode cX1_lookAhead 10 = .ok (.istore_n 2, 1) := by decide +kernel
theorem dX1_lookAhead_9 : decode cX1_lookAhead 9 = .ok (.iconst 0, 1) := by decide +kernel
theorem dX1_lookAhead_8 : decode cX1_lookAhead 8 = .ok (.istore_n 1, 1) := by decide +kernel
theorem dX1_lookAhead_7 : decode cX1_lookAhead 7 = .ok (.iconst 0, 1) := by decide +kernel
theorem dX1_lookAhead_12 : decode cX1_lookAhead 12 = .ok (.aload_n 0, 1) := by decide +kernel
theorem dX1_lookAhead_11 : decode cX1_lookAhead 11 = .ok (.iload_n 2, 1) := by decide +kernel
theorem dX1_lookAhead_13 : decode cX1_lookAhead 13 = .ok (.getfield 14, 3) := by decide +kernel
theorem dX1_lookAhead_16 : decode cX1_lookAhead 16 = .ok (.invokevirtual 58, 3) := by decide +kernel
theorem dX1_lookAhead_19 : decode cX1_lookAhead 19 = .ok (.if_icmp .gt 59, 3) := by decide +kernel
theorem dX1_lookAhead_78 : decode cX1_lookAhead 78 = .ok (.return_, 1) := by decide +kernel
theorem dX1_lookAhead_22 : decode cX1_lookAhead 22 = .ok (.aload_n 0, 1) := by decide +kernel
theorem dX1_lookAhead_23 : decode cX1_lookAhead 23 = .ok (.getfield 27, 3) := by decide +kernel
theorem dX1_lookAhead_26 : decode cX1_lookAhead 26 = .ok (.iload_n 1, 1) := by decide +kernel
theorem dX1_lookAhead_27 : decode cX1_lookAhead 27 = .ok (.invokevirtual 47, 3) := by decide +kernel
theorem dX1_lookAhead_32 : decode cX1_lookAhead 32 = .ok (.istore_n 3, 1) := by decide +kernel
theorem dX1_lookAhead_31 : decode cX1_lookAhead 31 = .ok (.iconst 0, 1) := by decide +kernel
theorem dX1_lookAhead_30 : decode cX1_lookAhead 30 = .ok (.pop, 1) := by decide +kernel
theorem dX1_lookAhead_34 : decode cX1_lookAhead 34 = .ok (.aload_n 0, 1) := by decide +kernel
theorem dX1_lookAhead_33 : decode cX1_lookAhead 33 = .ok (.iload_n 3, 1) := by decide +kernel
theorem dX1_lookAhead_35 : decode cX1_lookAhead 35 = .ok (.getfield 18, 3) := by decide +kernel
theorem dX1_lookAhead_38 : decode cX1_lookAhead 38 = .ok (.invokevirtual 58, 3) := by decide +kernel
theorem dX1_lookAhead_41 : decode cX1_lookAhead 41 = .ok (.if_icmp .ge 31, 3) := by decide +kernel
theorem dX1_lookAhead_75 : decode cX1_lookAhead 75 = .ok (.goto (-64), 3) := by decide +kernel
theorem dX1_lookAhead_72 : decode cX1_lookAhead 72 = .ok (.iinc 2 1, 3) := by decide +kernel
theorem dX1_lookAhead_45 : decode cX1_lookAhead 45 = .ok (.aload_n 0, 1) := by decide +kernel
theorem dX1_lookAhead_44 : decode cX1_lookAhead 44 = .ok (.iload_n 1, 1) := by decide +kernel
theorem dX1_lookAhead_46 : decode cX1_lookAhead 46 = .ok (.getfield 21, 3) := by decide +kernel
theorem dX1_lookAhead_50 : decode cX1_lookAhead 50 = .ok (.iload_n 3, 1) := by decide +kernel
theorem dX1_lookAhead_49 : decode cX1_lookAhead 49 = .ok (.iload_n 2, 1) := by decide +kernel
theorem dX1_lookAhead_51 : decode cX1_lookAhead 51 = .ok (.invokevirtual 62, 3) := by decide +kernel
theorem dX1_lookAhead_54 : decode cX1_lookAhead 54 = .ok (.ifCond .lt 9, 3) := by decide +kernel
theorem dX1_lookAhead_69 : decode cX1_lookAhead 69 = .ok (.goto (-36), 3) := by decide +kernel
theorem dX1_lookAhead_66 : decode cX1_lookAhead 66 = .ok (.iinc 3 1, 3) := by decide +kernel
theorem dX1_lookAhead_65 : decode cX1_lookAhead 65 = .ok (.istore_n 1, 1) := by decide +kernel
theorem dX1_lookAhead_64 : decode cX1_lookAhead 64 = .ok (.ior, 1) := by decide +kernel
theorem dX1_lookAhead_63 : decode cX1_lookAhead 63 = .ok (.iconst 0, 1) := by decide +kernel
theorem dX1_lookAhead_60 : decode cX1_lookAhead 60 = .ok (.goto 4, 3) := by decide +kernel
theorem dX1_lookAhead_59 : decode cX1_lookAhead 59 = .ok (.ishl, 1) := by decide +kernel
theorem dX1_lookAhead_58 : decode cX1_lookAhead 58 = .ok (.iload_n 3, 1) := by decide +kernel
theorem dX1_lookAhead_57 : decode cX1_lookAhead 57 = .ok (.iconst 1, 1) := by decide +kernel
theorem dX1_take_3 : decode cX1_take 3 = .ok (.iconst 0, 1) := by decide +kernel
theorem dX1_take_2 : decode cX1_take 2 = .ok (.aload_n 0, 1) := by decide +kernel
theorem dX1_take_1 : decode cX1_take 1 = .ok (.istore_n 1, 1) := by decide +kernel
theorem dX1_take_0 : decode cX1_take 0 = .ok (.iconst 0, 1) := by decide +kernel
theorem dX1_take_4 : decode cX1_take 4 = .ok (.putfield 38, 3) := by decide +kernel
theorem dX1_take_8 : decode cX1_take 8 = .ok (.iconst 0, 1) := by decide +kernel
theorem dX1_take_7 : decode cX1_take 7 = .ok (.aload_n 0, 1) := by decide +kernel
theorem dX1_take_9 : decode cX1_take 9 = .ok (.putfield 41, 3) := by decide +kernel
theorem dX1_take_12 : decode cX1_take 12 = .ok (.aload_n 0, 1) := by decide +kernel
theorem dX1_take_13 : decode cX1_take 13 = .ok (.getfield 24, 3) := by decide +kernel
theorem dX1_take_16 : decode cX1_take 16 = .ok (.invokevirtual 44, 3) := by decide +kernel
theorem dX1_take_20 : decode cX1_take 20 = .ok (.istore_n 2, 1) := by decide +kernel
theorem dX1_take_19 : decode cX1_take 19 = .ok (.iconst 0, 1) := by decide +kernel
theorem dX1_take_22 : decode cX1_take 22 = .ok (.aload_n 0, 1) := by decide +kernel
theorem dX1_take_21 : decode cX1_take 21 = .ok (.iload_n 2, 1) := by decide +kernel
theorem dX1_take_23 : decode cX1_take 23 = .ok (.getfield 14, 3) := by decide +kernel
theorem dX1_take_26 : decode cX1_take 26 = .ok (.invokevirtual 58, 3) := by decide +kernel
theorem dX1_take_29 : decode cX1_take 29 = .ok (.if_icmp .ge 63, 3) := by decide +kernel
theorem dX1_take_92 : decode cX1_take 92 = .ok (.return_, 1) := by decide +kernel
theorem dX1_take_34 : decode cX1_take 34 = .ok (.iload_n 1, 1) := by decide +kernel
theorem dX1_take_33 : decode cX1_take 33 = .ok (.iload_n 2, 1) := by decide +kernel
theorem dX1_take_32 : decode cX1_take 32 = .ok (.aload_n 0, 1) := by decide +kernel
theorem dX1_take_35 : decode cX1_take 35 = .ok (.invokevirtual 75, 3) := by decide +kernel
theorem dX1_take_39 : decode cX1_take 39 = .ok (.aload_n 0, 1) := by decide +kernel
theorem dX1_take_38 : decode cX1_take 38 = .ok (.istore_n 3, 1) := by decide +kernel
theorem dX1_take_40 : decode cX1_take 40 = .ok (.getfield 24, 3) := by decide +kernel
theorem dX1_take_43 : decode cX1_take 43 = .ok (.iload_n 3, 1) := by decide +kernel
theorem dX1_take_44 : decode cX1_take 44 = .ok (.invokevirtual 47, 3) := by decide +kernel
theorem dX1_take_49 : decode cX1_take 49 = .ok (.ifCond .lt 37, 3) := by decide +kernel
theorem dX1_take_48 : decode cX1_take 48 = .ok (.iload_n 3, 1) := by decide +kernel
theorem dX1_take_47 : decode cX1_take 47 = .ok (.pop, 1) := by decide +kernel
theorem dX1_take_89 : decode cX1_take 89 = .ok (.goto (-68), 3) := by decide +kernel
theorem dX1_take_86 : decode cX1_take 86 = .ok (.iinc 2 1, 3) := by decide +kernel
theorem dX1_take_59 : decode cX1_take 59 = .ok (.dup, 1) := by decide +kernel
theorem dX1_take_58 : decode cX1_take 58 = .ok (.aload_n 0, 1) := by decide +kernel
theorem dX1_take_57 : decode cX1_take 57 = .ok (.istore_n 1, 1) := by decide +kernel
theorem dX1_take_56 : decode cX1_take 56 = .ok (.ior, 1) := by decide +kernel
theorem dX1_take_55 : decode cX1_take 55 = .ok (.ishl, 1) := by decide +kernel
theorem dX1_take_54 : decode cX1_take 54 = .ok (.iload_n 3, 1) := by decide +kernel
theorem dX1_take_53 : decode cX1_take 53 = .ok (.iconst 1, 1) := by decide +kernel
theorem dX1_take_52 : decode cX1_take 52 = .ok (.iload_n 1, 1) := by decide +kernel
theorem dX1_take_60 : decode cX1_take 60 = .ok (.getfield 38, 3) := by decide +kernel
theorem dX1_take_63 : decode cX1_take 63 = .ok (.aload_n 0, 1) := by decide +kernel
theorem dX1_take_64 : decode cX1_take 64 = .ok (.getfield 21, 3) := by decide +kernel
theorem dX1_take_68 : decode cX1_take 68 = .ok (.iload_n 3, 1) := by decide +kernel
theorem dX1_take_67 : decode cX1_take 67 = .ok (.iload_n 2, 1) := by decide +kernel
theorem dX1_take_69 : decode cX1_take 69 = .ok (.invokevirtual 62, 3) := by decide +kernel
theorem dX1_take_72 : decode cX1_take 72 = .ok (.iadd, 1) := by decide +kernel
theorem dX1_take_73 : decode cX1_take 73 = .ok (.putfield 38, 3) := by decide +kernel
theorem dX1_take_77 : decode cX1_take 77 = .ok (.dup, 1) := by decide +kernel
theorem dX1_take_76 : decode cX1_take 76 = .ok (.aload_n 0, 1) := by decide +kernel
theorem dX1_take_78 : decode cX1_take 78 = .ok (.getfield 41, 3) := by decide +kernel
theorem dX1_take_82 : decode cX1_take 82 = .ok (.iadd, 1) := by decide +kernel
theorem dX1_take_81 : decode cX1_take 81 = .ok (.iconst 1, 1) := by decide +kernel
theorem dX1_take_83 : decode cX1_take 83 = .ok (.putfield 41, 3) := by decide +kernel
theorem dX1_leastFrom_0 : decode cX1_leastFrom 0 = .ok (.ldc 78, 2) := by decide +kernel
theorem dX1_leastFrom_6 : decode cX1_leastFrom 6 = .ok (.iload_n 2, 1) := by decide +kernel
theorem dX1_leastFrom_5 : decode cX1_leastFrom 5 = .ok (.iadd, 1) := by decide +kernel
theorem dX1_leastFrom_4 : decode cX1_leastFrom 4 = .ok (.iconst 1, 1) := by decide +kernel
theorem dX1_leastFrom_3 : decode cX1_leastFrom 3 = .ok (.iload_n 1, 1) := by decide +kernel
theorem dX1_leastFrom_2 : decode cX1_leastFrom 2 = .ok (.aload_n 0, 1) := by decide +kernel
theorem dX1_leastFrom_7 : decode cX1_leastFrom 7 = .ok (.invokevirtual 79, 3) := by decide +kernel
theorem dX1_leastFrom_13 : decode cX1_leastFrom 13 = .ok (.istore 4, 2) := by decide +kernel
theorem dX1_leastFrom_12 : decode cX1_leastFrom 12 = .ok (.iconst 0, 1) := by decide +kernel
theorem dX1_leastFrom_11 : decode cX1_leastFrom 11 = .ok (.istore_n 3, 1) := by decide +kernel
theorem dX1_leastFrom_10 : decode cX1_leastFrom 10 = .ok (.iadd, 1) := by decide +kernel
theorem dX1_leastFrom_17 : decode cX1_leastFrom 17 = .ok (.aload_n 0, 1) := by decide +kernel
theorem dX1_leastFrom_15 : decode cX1_leastFrom 15 = .ok (.iload 4, 2) := by decide +kernel
theorem dX1_leastFrom_18 : decode cX1_leastFrom 18 = .ok (.getfield 18, 3) := by decide +kernel
theorem dX1_leastFrom_21 : decode cX1_leastFrom 21 = .ok (.invokevirtual 58, 3) := by decide +kernel
theorem dX1_leastFrom_24 : decode cX1_leastFrom 24 = .ok (.if_icmp .ge 22, 3) := by decide +kernel
theorem dX1_leastFrom_46 : decode cX1_leastFrom 46 = .ok (.iload_n 3, 1) := by decide +kernel
theorem dX1_leastFrom_47 : decode cX1_leastFrom 47 = .ok (.ireturn, 1) := by decide +kernel
theorem dX1_leastFrom_31 : decode cX1_leastFrom 31 = .ok (.iload 4, 2) := by decide +kernel
theorem dX1_leastFrom_30 : decode cX1_leastFrom 30 = .ok (.iload_n 2, 1) := by decide +kernel
theorem dX1_leastFrom_29 : decode cX1_leastFrom 29 = .ok (.iload_n 1, 1) := by decide +kernel
theorem dX1_leastFrom_28 : decode cX1_leastFrom 28 = .ok (.aload_n 0, 1) := by decide +kernel
theorem dX1_leastFrom_27 : decode cX1_leastFrom 27 = .ok (.iload_n 3, 1) := by decide +kernel
theorem dX1_leastFrom_33 : decode cX1_leastFrom 33 = .ok (.invokevirtual 82, 3) := by decide +kernel
theorem dX1_leastFrom_36 : decode cX1_leastFrom 36 = .ok (.invokestatic 86, 3) := by decide +kernel
theorem dX1_leastFrom_43 : decode cX1_leastFrom 43 = .ok (.goto (-28), 3) := by decide +kernel
theorem dX1_leastFrom_40 : decode cX1_leastFrom 40 = .ok (.iinc 4 1, 3) := by decide +kernel
theorem dX1_leastFrom_39 : decode cX1_leastFrom 39 = .ok (.istore_n 3, 1) := by decide +kernel
theorem dX1_with_0 : decode cX1_with 0 = .ok (.aload_n 0, 1) := by decide +kernel
theorem dX1_with_1 : decode cX1_with 1 = .ok (.getfield 21, 3) := by decide +kernel
theorem dX1_with_5 : decode cX1_with 5 = .ok (.iload_n 3, 1) := by decide +kernel
theorem dX1_with_4 : decode cX1_with 4 = .ok (.iload_n 1, 1) := by decide +kernel
theorem dX1_with_6 : decode cX1_with 6 = .ok (.invokevirtual 62, 3) := by decide +kernel
theorem dX1_with_13 : decode cX1_with 13 = .ok (.ifCond .lt 22, 3) := by decide +kernel
theorem dX1_with_11 : decode cX1_with 11 = .ok (.iload 4, 2) := by decide +kernel
theorem dX1_with_9 : decode cX1_with 9 = .ok (.istore 4, 2) := by decide +kernel
theorem dX1_with_35 : decode cX1_with 35 = .ok (.ldc 96, 2) := by decide +kernel
theorem dX1_with_37 : decode cX1_with 37 = .ok (.ireturn, 1) := by decide +kernel
theorem dX1_with_21 : decode cX1_with 21 = .ok (.ifCond .ne 14, 3) := by decide +kernel
theorem dX1_with_20 : decode cX1_with 20 = .ok (.iand, 1) := by decide +kernel
theorem dX1_with_19 : decode cX1_with 19 = .ok (.iconst 1, 1) := by decide +kernel
theorem dX1_with_18 : decode cX1_with 18 = .ok (.ishr, 1) := by decide +kernel
theorem dX1_with_17 : decode cX1_with 17 = .ok (.iload_n 3, 1) := by decide +kernel
theorem dX1_with_16 : decode cX1_with 16 = .ok (.iload_n 2, 1) := by decide +kernel
theorem dX1_with_24 : decode cX1_with 24 = .ok (.iload_n 2, 1) := by decide +kernel
theorem dX1_with_25 : decode cX1_with 25 = .ok (.invokestatic 91, 3) := by decide +kernel
theorem dX1_with_28 : decode cX1_with 28 = .ok (.aload_n 0, 1) := by decide +kernel
theorem dX1_with_29 : decode cX1_with 29 = .ok (.getfield 34, 3) := by decide +kernel
theorem dX1_with_32 : decode cX1_with 32 = .ok (.if_icmp .lt 6, 3) := by decide +kernel
theorem dX1_with_48 : decode cX1_with 48 = .ok (.ior, 1) := by decide +kernel
theorem dX1_with_47 : decode cX1_with 47 = .ok (.ishl, 1) := by decide +kernel
theorem dX1_with_46 : decode cX1_with 46 = .ok (.iload_n 3, 1) := by decide +kernel
theorem dX1_with_45 : decode cX1_with 45 = .ok (.iconst 1, 1) := by decide +kernel
theorem dX1_with_44 : decode cX1_with 44 = .ok (.iload_n 2, 1) := by decide +kernel
theorem dX1_with_43 : decode cX1_with 43 = .ok (.iadd, 1) := by decide +kernel
theorem dX1_with_42 : decode cX1_with 42 = .ok (.iconst 1, 1) := by decide +kernel
theorem dX1_with_41 : decode cX1_with 41 = .ok (.iload_n 1, 1) := by decide +kernel
theorem dX1_with_40 : decode cX1_with 40 = .ok (.aload_n 0, 1) := by decide +kernel
theorem dX1_with_38 : decode cX1_with 38 = .ok (.iload 4, 2) := by decide +kernel
theorem dX1_with_49 : decode cX1_with 49 = .ok (.invokevirtual 79, 3) := by decide +kernel
theorem dX1_with_52 : decode cX1_with 52 = .ok (.iadd, 1) := by decide +kernel
theorem dX1_with_53 : decode cX1_with 53 = .ok (.ireturn, 1) := by decide +kernel
theorem dX1_firstBest_2 : decode cX1_firstBest 2 = .ok (.iload_n 2, 1) := by decide +kernel
theorem dX1_firstBest_1 : decode cX1_firstBest 1 = .ok (.iload_n 1, 1) := by decide +kernel
theorem dX1_firstBest_0 : decode cX1_firstBest 0 = .ok (.aload_n 0, 1) := by decide +kernel
theorem dX1_firstBest_3 : decode cX1_firstBest 3 = .ok (.invokevirtual 66, 3) := by decide +kernel
theorem dX1_firstBest_8 : decode cX1_firstBest 8 = .ok (.istore 4, 2) := by decide +kernel
theorem dX1_firstBest_7 : decode cX1_firstBest 7 = .ok (.iconst 0, 1) := by decide +kernel
theorem dX1_firstBest_6 : decode cX1_firstBest 6 = .ok (.istore_n 3, 1) := by decide +kernel
theorem dX1_firstBest_12 : decode cX1_firstBest 12 = .ok (.aload_n 0, 1) := by decide +kernel
theorem dX1_firstBest_10 : decode cX1_firstBest 10 = .ok (.iload 4, 2) := by decide +kernel
theorem dX1_firstBest_13 : decode cX1_firstBest 13 = .ok (.getfield 18, 3) := by decide +kernel
theorem dX1_firstBest_16 : decode cX1_firstBest 16 = .ok (.invokevirtual 58, 3) := by decide +kernel
theorem dX1_firstBest_19 : decode cX1_firstBest 19 = .ok (.if_icmp .ge 24, 3) := by decide +kernel
theorem dX1_firstBest_43 : decode cX1_firstBest 43 = .ok (.iconst (-1), 1) := by decide +kernel
theorem dX1_firstBest_44 : decode cX1_firstBest 44 = .ok (.ireturn, 1) := by decide +kernel
theorem dX1_firstBest_25 : decode cX1_firstBest 25 = .ok (.iload 4, 2) := by decide +kernel
theorem dX1_firstBest_24 : decode cX1_firstBest 24 = .ok (.iload_n 2, 1) := by decide +kernel
theorem dX1_firstBest_23 : decode cX1_firstBest 23 = .ok (.iload_n 1, 1) := by decide +kernel
theorem dX1_firstBest_22 : decode cX1_firstBest 22 = .ok (.aload_n 0, 1) := by decide +kernel
theorem dX1_firstBest_27 : decode cX1_firstBest 27 = .ok (.invokevirtual 82, 3) := by decide +kernel
theorem dX1_firstBest_31 : decode cX1_firstBest 31 = .ok (.if_icmp .ne 6, 3) := by decide +kernel
theorem dX1_firstBest_30 : decode cX1_firstBest 30 = .ok (.iload_n 3, 1) := by decide +kernel
theorem dX1_firstBest_34 : decode cX1_firstBest 34 = .ok (.iload 4, 2) := by decide +kernel
theorem dX1_firstBest_36 : decode cX1_firstBest 36 = .ok (.ireturn, 1) := by decide +kernel
theorem dX1_firstBest_40 : decode cX1_firstBest 40 = .ok (.goto (-30), 3) := by decide +kernel
theorem dX1_firstBest_37 : decode cX1_firstBest 37 = .ok (.iinc 4 1, 3) := by decide +kernel
theorem dX1_keep_11 : decode cX1_keep 11 = .ok (.ifCond .lt 21, 3) := by decide +kernel
theorem dX1_keep_9 : decode cX1_keep 9 = .ok (.iload 4, 2) := by decide +kernel
theorem dX1_keep_7 : decode cX1_keep 7 = .ok (.istore 4, 2) := by decide +kernel
theorem dX1_keep_6 : decode cX1_keep 6 = .ok (.iadd, 1) := by decide +kernel
theorem dX1_keep_5 : decode cX1_keep 5 = .ok (.iload_n 2, 1) := by decide +kernel
theorem dX1_keep_4 : decode cX1_keep 4 = .ok (.imul, 1) := by decide +kernel
theorem dX1_keep_1 : decode cX1_keep 1 = .ok (.sipush 512, 3) := by decide +kernel
theorem dX1_keep_0 : decode cX1_keep 0 = .ok (.iload_n 1, 1) := by decide +kernel
theorem dX1_keep_32 : decode cX1_keep 32 = .ok (.return_, 1) := by decide +kernel
theorem dX1_keep_16 : decode cX1_keep 16 = .ok (.aload_n 0, 1) := by decide +kernel
theorem dX1_keep_14 : decode cX1_keep 14 = .ok (.iload 4, 2) := by decide +kernel
theorem dX1_keep_17 : decode cX1_keep 17 = .ok (.getfield 30, 3) := by decide +kernel
theorem dX1_keep_20 : decode cX1_keep 20 = .ok (.arraylength, 1) := by decide +kernel
theorem dX1_keep_21 : decode cX1_keep 21 = .ok (.if_icmp .ge 11, 3) := by decide +kernel
theorem dX1_keep_24 : decode cX1_keep 24 = .ok (.aload_n 0, 1) := by decide +kernel
theorem dX1_keep_25 : decode cX1_keep 25 = .ok (.getfield 30, 3) := by decide +kernel
theorem dX1_keep_30 : decode cX1_keep 30 = .ok (.iload_n 3, 1) := by decide +kernel
theorem dX1_keep_28 : decode cX1_keep 28 = .ok (.iload 4, 2) := by decide +kernel
theorem dX1_keep_31 : decode cX1_keep 31 = .ok (.iastore, 1) := by decide +kernel
theorem dX1_kept_9 : decode cX1_kept 9 = .ok (.ifCond .lt 21, 3) := by decide +kernel
theorem dX1_kept_8 : decode cX1_kept 8 = .ok (.iload_n 3, 1) := by decide +kernel
theorem dX1_kept_7 : decode cX1_kept 7 = .ok (.istore_n 3, 1) := by decide +kernel
theorem dX1_kept_6 : decode cX1_kept 6 = .ok (.iadd, 1) := by decide +kernel
theorem dX1_kept_5 : decode cX1_kept 5 = .ok (.iload_n 2, 1) := by decide +kernel
theorem dX1_kept_4 : decode cX1_kept 4 = .ok (.imul, 1) := by decide +kernel
theorem dX1_kept_1 : decode cX1_kept 1 = .ok (.sipush 512, 3) := by decide +kernel
theorem dX1_kept_0 : decode cX1_kept 0 = .ok (.iload_n 1, 1) := by decide +kernel
theorem dX1_kept_30 : decode cX1_kept 30 = .ok (.ldc 96, 2) := by decide +kernel
theorem dX1_kept_32 : decode cX1_kept 32 = .ok (.ireturn, 1) := by decide +kernel
theorem dX1_kept_13 : decode cX1_kept 13 = .ok (.aload_n 0, 1) := by decide +kernel
theorem dX1_kept_12 : decode cX1_kept 12 = .ok (.iload_n 3, 1) := by decide +kernel
theorem dX1_kept_14 : decode cX1_kept 14 = .ok (.getfield 30, 3) := by decide +kernel
theorem dX1_kept_17 : decode cX1_kept 17 = .ok (.arraylength, 1) := by decide +kernel
theorem dX1_kept_18 : decode cX1_kept 18 = .ok (.if_icmp .ge 12, 3) := by decide +kernel
theorem dX1_kept_21 : decode cX1_kept 21 = .ok (.aload_n 0, 1) := by decide +kernel
theorem dX1_kept_22 : decode cX1_kept 22 = .ok (.getfield 30, 3) := by decide +kernel
theorem dX1_kept_25 : decode cX1_kept 25 = .ok (.iload_n 3, 1) := by decide +kernel
theorem dX1_kept_26 : decode cX1_kept 26 = .ok (.iaload, 1) := by decide +kernel
theorem dX1_kept_27 : decode cX1_kept 27 = .ok (.goto 5, 3) := by decide +kernel
theorem dX1_pairs_0 : decode cX1_pairs 0 = .ok (.aload_n 0, 1) := by decide +kernel
theorem dX1_pairs_1 : decode cX1_pairs 1 = .ok (.getfield 41, 3) := by decide +kernel
theorem dX1_pairs_4 : decode cX1_pairs 4 = .ok (.ireturn, 1) := by decide +kernel
theorem dX1_sum_0 : decode cX1_sum 0 = .ok (.aload_n 0, 1) := by decide +kernel
theorem dX1_sum_1 : decode cX1_sum 1 = .ok (.getfield 38, 3) := by decide +kernel
theorem dX1_sum_4 : decode cX1_sum 4 = .ok (.ireturn, 1) := by decide +kernel
theorem dX1_partner_0 : decode cX1_partner 0 = .ok (.aload_n 0, 1) := by decide +kernel
theorem dX1_partner_1 : decode cX1_partner 1 = .ok (.getfield 24, 3) := by decide +kernel
theorem dX1_partner_4 : decode cX1_partner 4 = .ok (.iload_n 1, 1) := by decide +kernel
theorem dX1_partner_5 : decode cX1_partner 5 = .ok (.invokevirtual 97, 3) := by decide +kernel
theorem dX1_partner_8 : decode cX1_partner 8 = .ok (.ifCond .eq 15, 3) := by decide +kernel
theorem dX1_partner_25 : decode cX1_partner 25 = .ok (.aload_n 0, 1) := by decide +kernel
theorem dX1_partner_24 : decode cX1_partner 24 = .ok (.istore_n 2, 1) := by decide +kernel
theorem dX1_partner_23 : decode cX1_partner 23 = .ok (.iconst (-1), 1) := by decide +kernel
theorem dX1_partner_26 : decode cX1_partner 26 = .ok (.getfield 18, 3) := by decide +kernel
theorem dX1_partner_29 : decode cX1_partner 29 = .ok (.iload_n 2, 1) := by decide +kernel
theorem dX1_partner_30 : decode cX1_partner 30 = .ok (.invokevirtual 97, 3) := by decide +kernel
theorem dX1_partner_11 : decode cX1_partner 11 = .ok (.aload_n 0, 1) := by decide +kernel
theorem dX1_partner_12 : decode cX1_partner 12 = .ok (.getfield 24, 3) := by decide +kernel
theorem dX1_partner_16 : decode cX1_partner 16 = .ok (.iconst 0, 1) := by decide +kernel
theorem dX1_partner_15 : decode cX1_partner 15 = .ok (.iload_n 1, 1) := by decide +kernel
theorem dX1_partner_17 : decode cX1_partner 17 = .ok (.invokevirtual 62, 3) := by decide +kernel
theorem dX1_partner_33 : decode cX1_partner 33 = .ok (.ifCond .eq 15, 3) := by decide +kernel
theorem dX1_partner_48 : decode cX1_partner 48 = .ok (.iconst (-1), 1) := by decide +kernel
theorem dX1_partner_49 : decode cX1_partner 49 = .ok (.ireturn, 1) := by decide +kernel
theorem dX1_partner_36 : decode cX1_partner 36 = .ok (.aload_n 0, 1) := by decide +kernel
theorem dX1_partner_37 : decode cX1_partner 37 = .ok (.getfield 18, 3) := by decide +kernel
theorem dX1_partner_41 : decode cX1_partner 41 = .ok (.iconst 0, 1) := by decide +kernel
theorem dX1_partner_40 : decode cX1_partner 40 = .ok (.iload_n 2, 1) := by decide +kernel
theorem dX1_partner_42 : decode cX1_partner 42 = .ok (.invokevirtual 62, 3) := by decide +kernel
theorem dX1_partner_20 : decode cX1_partner 20 = .ok (.goto 4, 3) := by decide +kernel
theorem dX1_partner_45 : decode cX1_partner 45 = .ok (.goto 4, 3) := by decide +kernel
theorem dX4_read_0 : decode cX4_read 0 = .ok (.aload_n 0, 1) := by decide +kernel
theorem dX4_read_1 : decode cX4_read 1 = .ok (.getfield 14, 3) := by decide +kernel
theorem dX4_read_4 : decode cX4_read 4 = .ok (.invokevirtual 24, 3) := by decide +kernel
theorem dX4_read_8 : decode cX4_read 8 = .ok (.iload_n 2, 1) := by decide +kernel
theorem dX4_read_7 : decode cX4_read 7 = .ok (.aload_n 1, 1) := by decide +kernel
theorem dX4_read_9 : decode cX4_read 9 = .ok (.invokevirtual 27, 3) := by decide +kernel
theorem dX4_read_13 : decode cX4_read 13 = .ok (.bipush 10, 2) := by decide +kernel
theorem dX4_read_12 : decode cX4_read 12 = .ok (.iconst 1, 1) := by decide +kernel
theorem dX4_read_15 : decode cX4_read 15 = .ok (.invokestatic 33, 3) := by decide +kernel
theorem dX4_read_18 : decode cX4_read 18 = .ok (.ifCond .ne 5, 3) := by decide +kernel
theorem dX4_read_21 : decode cX4_read 21 = .ok (.iconst 0, 1) := by decide +kernel
theorem dX4_read_22 : decode cX4_read 22 = .ok (.ireturn, 1) := by decide +kernel
theorem dX4_read_24 : decode cX4_read 24 = .ok (.istore_n 3, 1) := by decide +kernel
theorem dX4_read_23 : decode cX4_read 23 = .ok (.iconst 0, 1) := by decide +kernel
theorem dX4_read_27 : decode cX4_read 27 = .ok (.iload_n 2, 1) := by decide +kernel
theorem dX4_read_26 : decode cX4_read 26 = .ok (.aload_n 1, 1) := by decide +kernel
theorem dX4_read_25 : decode cX4_read 25 = .ok (.iload_n 3, 1) := by decide +kernel
theorem dX4_read_28 : decode cX4_read 28 = .ok (.invokevirtual 27, 3) := by decide +kernel
theorem dX4_read_31 : decode cX4_read 31 = .ok (.if_icmp .ge 40, 3) := by decide +kernel
theorem dX4_read_71 : decode cX4_read 71 = .ok (.iconst 1, 1) := by decide +kernel
theorem dX4_read_72 : decode cX4_read 72 = .ok (.ireturn, 1) := by decide +kernel
theorem dX4_read_36 : decode cX4_read 36 = .ok (.iload_n 3, 1) := by decide +kernel
theorem dX4_read_35 : decode cX4_read 35 = .ok (.iload_n 2, 1) := by decide +kernel
theorem dX4_read_34 : decode cX4_read 34 = .ok (.aload_n 1, 1) := by decide +kernel
theorem dX4_read_37 : decode cX4_read 37 = .ok (.invokevirtual 39, 3) := by decide +kernel
theorem dX4_read_45 : decode cX4_read 45 = .ok (.bipush 6, 2) := by decide +kernel
theorem dX4_read_44 : decode cX4_read 44 = .ok (.iconst 0, 1) := by decide +kernel
theorem dX4_read_42 : decode cX4_read 42 = .ok (.iload 4, 2) := by decide +kernel
theorem dX4_read_40 : decode cX4_read 40 = .ok (.istore 4, 2) := by decide +kernel
theorem dX4_read_47 : decode cX4_read 47 = .ok (.invokestatic 33, 3) := by decide +kernel
theorem dX4_read_50 : decode cX4_read 50 = .ok (.ifCond .ne 5, 3) := by decide +kernel
theorem dX4_read_53 : decode cX4_read 53 = .ok (.iconst 0, 1) := by decide +kernel
theorem dX4_read_54 : decode cX4_read 54 = .ok (.ireturn, 1) := by decide +kernel
theorem dX4_read_55 : decode cX4_read 55 = .ok (.aload_n 0, 1) := by decide +kernel
theorem dX4_read_56 : decode cX4_read 56 = .ok (.getfield 14, 3) := by decide +kernel
theorem dX4_read_59 : decode cX4_read 59 = .ok (.iload 4, 2) := by decide +kernel
theorem dX4_read_61 : decode cX4_read 61 = .ok (.invokevirtual 43, 3) := by decide +kernel
theorem dX4_read_68 : decode cX4_read 68 = .ok (.goto (-43), 3) := by decide +kernel
theorem dX4_read_65 : decode cX4_read 65 = .ok (.iinc 3 1, 3) := by decide +kernel
theorem dX4_read_64 : decode cX4_read 64 = .ok (.pop, 1) := by decide +kernel
theorem dX4_lay_0 : decode cX4_lay 0 = .ok (.aload_n 0, 1) := by decide +kernel
theorem dX4_lay_1 : decode cX4_lay 1 = .ok (.invokevirtual 46, 3) := by decide +kernel
theorem dX4_lay_4 : decode cX4_lay 4 = .ok (.aload_n 0, 1) := by decide +kernel
theorem dX4_lay_5 : decode cX4_lay 5 = .ok (.getfield 18, 3) := by decide +kernel
theorem dX4_lay_8 : decode cX4_lay 8 = .ok (.invokevirtual 24, 3) := by decide +kernel
theorem dX4_lay_12 : decode cX4_lay 12 = .ok (.istore_n 1, 1) := by decide +kernel
theorem dX4_lay_11 : decode cX4_lay 11 = .ok (.iconst 0, 1) := by decide +kernel
theorem dX4_lay_14 : decode cX4_lay 14 = .ok (.aload_n 0, 1) := by decide +kernel
theorem dX4_lay_13 : decode cX4_lay 13 = .ok (.iload_n 1, 1) := by decide +kernel
theorem dX4_lay_15 : decode cX4_lay 15 = .ok (.getfield 14, 3) := by decide +kernel
theorem dX4_lay_18 : decode cX4_lay 18 = .ok (.invokevirtual 49, 3) := by decide +kernel
theorem dX4_lay_21 : decode cX4_lay 21 = .ok (.if_icmp .ge 30, 3) := by decide +kernel
theorem dX4_lay_51 : decode cX4_lay 51 = .ok (.iconst 1, 1) := by decide +kernel
theorem dX4_lay_52 : decode cX4_lay 52 = .ok (.ireturn, 1) := by decide +kernel
theorem dX4_lay_25 : decode cX4_lay 25 = .ok (.iload_n 1, 1) := by decide +kernel
theorem dX4_lay_24 : decode cX4_lay 24 = .ok (.aload_n 0, 1) := by decide +kernel
theorem dX4_lay_26 : decode cX4_lay 26 = .ok (.invokevirtual 52, 3) := by decide +kernel
theorem dX4_lay_31 : decode cX4_lay 31 = .ok (.ifCond .ge 5, 3) := by decide +kernel
theorem dX4_lay_30 : decode cX4_lay 30 = .ok (.iload_n 2, 1) := by decide +kernel
theorem dX4_lay_29 : decode cX4_lay 29 = .ok (.istore_n 2, 1) := by decide +kernel
theorem dX4_lay_36 : decode cX4_lay 36 = .ok (.aload_n 0, 1) := by decide +kernel
theorem dX4_lay_37 : decode cX4_lay 37 = .ok (.getfield 18, 3) := by decide +kernel
theorem dX4_lay_40 : decode cX4_lay 40 = .ok (.iload_n 2, 1) := by decide +kernel
theorem dX4_lay_41 : decode cX4_lay 41 = .ok (.invokevirtual 43, 3) := by decide +kernel
theorem dX4_lay_34 : decode cX4_lay 34 = .ok (.iconst 0, 1) := by decide +kernel
theorem dX4_lay_35 : decode cX4_lay 35 = .ok (.ireturn, 1) := by decide +kernel
theorem dX4_lay_48 : decode cX4_lay 48 = .ok (.goto (-35), 3) := by decide +kernel
theorem dX4_lay_45 : decode cX4_lay 45 = .ok (.iinc 1 1, 3) := by decide +kernel
theorem dX4_lay_44 : decode cX4_lay 44 = .ok (.pop, 1) := by decide +kernel
theorem dX4_day_0 : decode cX4_day 0 = .ok (.aload_n 0, 1) := by decide +kernel
theorem dX4_day_1 : decode cX4_day 1 = .ok (.getfield 18, 3) := by decide +kernel
theorem dX4_day_5 : decode cX4_day 5 = .ok (.iconst 0, 1) := by decide +kernel
theorem dX4_day_4 : decode cX4_day 4 = .ok (.iload_n 1, 1) := by decide +kernel
theorem dX4_day_6 : decode cX4_day 6 = .ok (.invokevirtual 55, 3) := by decide +kernel
theorem dX4_day_9 : decode cX4_day 9 = .ok (.ireturn, 1) := by decide +kernel
theorem dX4_foresee_0 : decode cX4_foresee 0 = .ok (.aload_n 0, 1) := by decide +kernel
theorem dX4_foresee_1 : decode cX4_foresee 1 = .ok (.getfield 21, 3) := by decide +kernel
theorem dX4_foresee_4 : decode cX4_foresee 4 = .ok (.invokevirtual 24, 3) := by decide +kernel
theorem dX4_foresee_8 : decode cX4_foresee 8 = .ok (.istore_n 1, 1) := by decide +kernel
theorem dX4_foresee_7 : decode cX4_foresee 7 = .ok (.iconst 0, 1) := by decide +kernel
theorem dX4_foresee_10 : decode cX4_foresee 10 = .ok (.aload_n 0, 1) := by decide +kernel
theorem dX4_foresee_9 : decode cX4_foresee 9 = .ok (.iload_n 1, 1) := by decide +kernel
theorem dX4_foresee_11 : decode cX4_foresee 11 = .ok (.getfield 14, 3) := by decide +kernel
theorem dX4_foresee_14 : decode cX4_foresee 14 = .ok (.invokevirtual 49, 3) := by decide +kernel
theorem dX4_foresee_17 : decode cX4_foresee 17 = .ok (.if_icmp .gt 18, 3) := by decide +kernel
theorem dX4_foresee_35 : decode cX4_foresee 35 = .ok (.aload_n 0, 1) := by decide +kernel
theorem dX4_foresee_36 : decode cX4_foresee 36 = .ok (.getfield 14, 3) := by decide +kernel
theorem dX4_foresee_39 : decode cX4_foresee 39 = .ok (.invokevirtual 49, 3) := by decide +kernel
theorem dX4_foresee_20 : decode cX4_foresee 20 = .ok (.aload_n 0, 1) := by decide +kernel
theorem dX4_foresee_21 : decode cX4_foresee 21 = .ok (.getfield 21, 3) := by decide +kernel
theorem dX4_foresee_24 : decode cX4_foresee 24 = .ok (.iconst 0, 1) := by decide +kernel
theorem dX4_foresee_25 : decode cX4_foresee 25 = .ok (.invokevirtual 43, 3) := by decide +kernel
theorem dX4_foresee_42 : decode cX4_foresee 42 = .ok (.istore_n 1, 1) := by decide +kernel
theorem dX4_foresee_32 : decode cX4_foresee 32 = .ok (.goto (-23), 3) := by decide +kernel
theorem dX4_foresee_29 : decode cX4_foresee 29 = .ok (.iinc 1 1, 3) := by decide +kernel
theorem dX4_foresee_28 : decode cX4_foresee 28 = .ok (.pop, 1) := by decide +kernel
theorem dX4_foresee_44 : decode cX4_foresee 44 = .ok (.ifCond .lt 57, 3) := by decide +kernel
theorem dX4_foresee_43 : decode cX4_foresee 43 = .ok (.iload_n 1, 1) := by decide +kernel
theorem dX4_foresee_101 : decode cX4_foresee 101 = .ok (.return_, 1) := by decide +kernel
theorem dX4_foresee_48 : decode cX4_foresee 48 = .ok (.istore_n 2, 1) := by decide +kernel
theorem dX4_foresee_47 : decode cX4_foresee 47 = .ok (.iconst 0, 1) := by decide +kernel
theorem dX4_foresee_52 : decode cX4_foresee 52 = .ok (.if_icmp .gt 43, 3) := by decide +kernel
theorem dX4_foresee_50 : decode cX4_foresee 50 = .ok (.bipush 6, 2) := by decide +kernel
theorem dX4_foresee_49 : decode cX4_foresee 49 = .ok (.iload_n 2, 1) := by decide +kernel
theorem dX4_foresee_98 : decode cX4_foresee 98 = .ok (.goto (-55), 3) := by decide +kernel
theorem dX4_foresee_95 : decode cX4_foresee 95 = .ok (.iinc 1 (-1), 3) := by decide +kernel
theorem dX4_foresee_55 : decode cX4_foresee 55 = .ok (.aload_n 0, 1) := by decide +kernel
theorem dX4_foresee_56 : decode cX4_foresee 56 = .ok (.getfield 21, 3) := by decide +kernel
theorem dX4_foresee_62 : decode cX4_foresee 62 = .ok (.aload_n 0, 1) := by decide +kernel
theorem dX4_foresee_61 : decode cX4_foresee 61 = .ok (.iload_n 1, 1) := by decide +kernel
theorem dX4_foresee_60 : decode cX4_foresee 60 = .ok (.iload_n 2, 1) := by decide +kernel
theorem dX4_foresee_59 : decode cX4_foresee 59 = .ok (.iload_n 1, 1) := by decide +kernel
theorem dX4_foresee_63 : decode cX4_foresee 63 = .ok (.getfield 14, 3) := by decide +kernel
theorem dX4_foresee_66 : decode cX4_foresee 66 = .ok (.invokevirtual 49, 3) := by decide +kernel
theorem dX4_foresee_69 : decode cX4_foresee 69 = .ok (.if_icmp .eq 12, 3) := by decide +kernel
theorem dX4_foresee_82 : decode cX4_foresee 82 = .ok (.goto 4, 3) := by decide +kernel
theorem dX4_foresee_81 : decode cX4_foresee 81 = .ok (.iconst 1, 1) := by decide +kernel
theorem dX4_foresee_86 : decode cX4_foresee 86 = .ok (.invokevirtual 60, 3) := by decide +kernel
theorem dX4_foresee_74 : decode cX4_foresee 74 = .ok (.iload_n 2, 1) := by decide +kernel
theorem dX4_foresee_73 : decode cX4_foresee 73 = .ok (.iload_n 1, 1) := by decide +kernel
theorem dX4_foresee_72 : decode cX4_foresee 72 = .ok (.aload_n 0, 1) := by decide +kernel
theorem dX4_foresee_75 : decode cX4_foresee 75 = .ok (.invokevirtual 56, 3) := by decide +kernel
theorem dX4_foresee_92 : decode cX4_foresee 92 = .ok (.goto (-43), 3) := by decide +kernel
theorem dX4_foresee_89 : decode cX4_foresee 89 = .ok (.iinc 2 1, 3) := by decide +kernel
theorem dX4_foresee_78 : decode cX4_foresee 78 = .ok (.ifCond .eq 7, 3) := by decide +kernel
theorem dX4_foresee_85 : decode cX4_foresee 85 = .ok (.iconst 0, 1) := by decide +kernel
theorem dX4_canFill_0 : decode cX4_canFill 0 = .ok (.aload_n 0, 1) := by decide +kernel
theorem dX4_canFill_1 : decode cX4_canFill 1 = .ok (.getfield 14, 3) := by decide +kernel
theorem dX4_canFill_7 : decode cX4_canFill 7 = .ok (.iconst 0, 1) := by decide +kernel
theorem dX4_canFill_6 : decode cX4_canFill 6 = .ok (.isub, 1) := by decide +kernel
theorem dX4_canFill_5 : decode cX4_canFill 5 = .ok (.iconst 1, 1) := by decide +kernel
theorem dX4_canFill_4 : decode cX4_canFill 4 = .ok (.iload_n 1, 1) := by decide +kernel
theorem dX4_canFill_8 : decode cX4_canFill 8 = .ok (.invokevirtual 55, 3) := by decide +kernel
theorem dX4_canFill_12 : decode cX4_canFill 12 = .ok (.aload_n 0, 1) := by decide +kernel
theorem dX4_canFill_11 : decode cX4_canFill 11 = .ok (.istore_n 3, 1) := by decide +kernel
theorem dX4_canFill_13 : decode cX4_canFill 13 = .ok (.getfield 14, 3) := by decide +kernel
theorem dX4_canFill_17 : decode cX4_canFill 17 = .ok (.iconst 0, 1) := by decide +kernel
theorem dX4_canFill_16 : decode cX4_canFill 16 = .ok (.iload_n 1, 1) := by decide +kernel
theorem dX4_canFill_18 : decode cX4_canFill 18 = .ok (.invokevirtual 55, 3) := by decide +kernel
theorem dX4_canFill_24 : decode cX4_canFill 24 = .ok (.istore 5, 2) := by decide +kernel
theorem dX4_canFill_23 : decode cX4_canFill 23 = .ok (.iconst 0, 1) := by decide +kernel
theorem dX4_canFill_21 : decode cX4_canFill 21 = .ok (.istore 4, 2) := by decide +kernel
theorem dX4_canFill_30 : decode cX4_canFill 30 = .ok (.if_icmp .gt 46, 3) := by decide +kernel
theorem dX4_canFill_28 : decode cX4_canFill 28 = .ok (.iload 4, 2) := by decide +kernel
theorem dX4_canFill_26 : decode cX4_canFill 26 = .ok (.iload 5, 2) := by decide +kernel
theorem dX4_canFill_76 : decode cX4_canFill 76 = .ok (.iconst 0, 1) := by decide +kernel
theorem dX4_canFill_77 : decode cX4_canFill 77 = .ok (.ireturn, 1) := by decide +kernel
theorem dX4_canFill_38 : decode cX4_canFill 38 = .ok (.if_icmp .gt 32, 3) := by decide +kernel
theorem dX4_canFill_37 : decode cX4_canFill 37 = .ok (.isub, 1) := by decide +kernel
theorem dX4_canFill_36 : decode cX4_canFill 36 = .ok (.iload_n 2, 1) := by decide +kernel
theorem dX4_canFill_35 : decode cX4_canFill 35 = .ok (.iload_n 3, 1) := by decide +kernel
theorem dX4_canFill_33 : decode cX4_canFill 33 = .ok (.iload 5, 2) := by decide +kernel
theorem dX4_canFill_73 : decode cX4_canFill 73 = .ok (.goto (-47), 3) := by decide +kernel
theorem dX4_canFill_70 : decode cX4_canFill 70 = .ok (.iinc 5 1, 3) := by decide +kernel
theorem dX4_canFill_50 : decode cX4_canFill 50 = .ok (.if_icmp .gt 20, 3) := by decide +kernel
theorem dX4_canFill_49 : decode cX4_canFill 49 = .ok (.isub, 1) := by decide +kernel
theorem dX4_canFill_48 : decode cX4_canFill 48 = .ok (.iload_n 3, 1) := by decide +kernel
theorem dX4_canFill_46 : decode cX4_canFill 46 = .ok (.bipush 6, 2) := by decide +kernel
theorem dX4_canFill_45 : decode cX4_canFill 45 = .ok (.isub, 1) := by decide +kernel
theorem dX4_canFill_43 : decode cX4_canFill 43 = .ok (.iload 5, 2) := by decide +kernel
theorem dX4_canFill_41 : decode cX4_canFill 41 = .ok (.iload 4, 2) := by decide +kernel
theorem dX4_canFill_53 : decode cX4_canFill 53 = .ok (.aload_n 0, 1) := by decide +kernel
theorem dX4_canFill_54 : decode cX4_canFill 54 = .ok (.getfield 21, 3) := by decide +kernel
theorem dX4_canFill_60 : decode cX4_canFill 60 = .ok (.iload 5, 2) := by decide +kernel
theorem dX4_canFill_59 : decode cX4_canFill 59 = .ok (.iadd, 1) := by decide +kernel
theorem dX4_canFill_58 : decode cX4_canFill 58 = .ok (.iconst 1, 1) := by decide +kernel
theorem dX4_canFill_57 : decode cX4_canFill 57 = .ok (.iload_n 1, 1) := by decide +kernel
theorem dX4_canFill_62 : decode cX4_canFill 62 = .ok (.invokevirtual 55, 3) := by decide +kernel
theorem dX4_canFill_65 : decode cX4_canFill 65 = .ok (.ifCond .eq 5, 3) := by decide +kernel
theorem dX4_canFill_68 : decode cX4_canFill 68 = .ok (.iconst 1, 1) := by decide +kernel
theorem dX4_canFill_69 : decode cX4_canFill 69 = .ok (.ireturn, 1) := by decide +kernel
theorem dX4_firstSet_0 : decode cX4_firstSet 0 = .ok (.aload_n 0, 1) := by decide +kernel
theorem dX4_firstSet_1 : decode cX4_firstSet 1 = .ok (.getfield 18, 3) := by decide +kernel
theorem dX4_firstSet_7 : decode cX4_firstSet 7 = .ok (.iconst 0, 1) := by decide +kernel
theorem dX4_firstSet_6 : decode cX4_firstSet 6 = .ok (.isub, 1) := by decide +kernel
theorem dX4_firstSet_5 : decode cX4_firstSet 5 = .ok (.iconst 1, 1) := by decide +kernel
theorem dX4_firstSet_4 : decode cX4_firstSet 4 = .ok (.iload_n 1, 1) := by decide +kernel
theorem dX4_firstSet_8 : decode cX4_firstSet 8 = .ok (.invokevirtual 55, 3) := by decide +kernel
theorem dX4_firstSet_13 : decode cX4_firstSet 13 = .ok (.aload_n 0, 1) := by decide +kernel
theorem dX4_firstSet_12 : decode cX4_firstSet 12 = .ok (.iload_n 2, 1) := by decide +kernel
theorem dX4_firstSet_11 : decode cX4_firstSet 11 = .ok (.istore_n 2, 1) := by decide +kernel
theorem dX4_firstSet_14 : decode cX4_firstSet 14 = .ok (.getfield 18, 3) := by decide +kernel
theorem dX4_firstSet_20 : decode cX4_firstSet 20 = .ok (.iconst 0, 1) := by decide +kernel
theorem dX4_firstSet_19 : decode cX4_firstSet 19 = .ok (.isub, 1) := by decide +kernel
theorem dX4_firstSet_18 : decode cX4_firstSet 18 = .ok (.iconst 2, 1) := by decide +kernel
theorem dX4_firstSet_17 : decode cX4_firstSet 17 = .ok (.iload_n 1, 1) := by decide +kernel
theorem dX4_firstSet_21 : decode cX4_firstSet 21 = .ok (.invokevirtual 55, 3) := by decide +kernel
theorem dX4_firstSet_27 : decode cX4_firstSet 27 = .ok (.istore 4, 2) := by decide +kernel
theorem dX4_firstSet_26 : decode cX4_firstSet 26 = .ok (.iconst 0, 1) := by decide +kernel
theorem dX4_firstSet_25 : decode cX4_firstSet 25 = .ok (.istore_n 3, 1) := by decide +kernel
theorem dX4_firstSet_24 : decode cX4_firstSet 24 = .ok (.iand, 1) := by decide +kernel
theorem dX4_firstSet_33 : decode cX4_firstSet 33 = .ok (.if_icmp .ge 56, 3) := by decide +kernel
theorem dX4_firstSet_31 : decode cX4_firstSet 31 = .ok (.bipush 64, 2) := by decide +kernel
theorem dX4_firstSet_29 : decode cX4_firstSet 29 = .ok (.iload 4, 2) := by decide +kernel
theorem dX4_firstSet_89 : decode cX4_firstSet 89 = .ok (.iconst (-1), 1) := by decide +kernel
theorem dX4_firstSet_90 : decode cX4_firstSet 90 = .ok (.ireturn, 1) := by decide +kernel
theorem dX4_firstSet_36 : decode cX4_firstSet 36 = .ok (.iload 4, 2) := by decide +kernel
theorem dX4_firstSet_38 : decode cX4_firstSet 38 = .ok (.invokestatic 64, 3) := by decide +kernel
theorem dX4_firstSet_41 : decode cX4_firstSet 41 = .ok (.aload_n 0, 1) := by decide +kernel
theorem dX4_firstSet_42 : decode cX4_firstSet 42 = .ok (.getfield 14, 3) := by decide +kernel
theorem dX4_firstSet_46 : decode cX4_firstSet 46 = .ok (.iconst 0, 1) := by decide +kernel
theorem dX4_firstSet_45 : decode cX4_firstSet 45 = .ok (.iload_n 1, 1) := by decide +kernel
theorem dX4_firstSet_47 : decode cX4_firstSet 47 = .ok (.invokevirtual 55, 3) := by decide +kernel
theorem dX4_firstSet_50 : decode cX4_firstSet 50 = .ok (.if_icmp .ne 33, 3) := by decide +kernel
theorem dX4_firstSet_57 : decode cX4_firstSet 57 = .ok (.ifCond .ne 26, 3) := by decide +kernel
theorem dX4_firstSet_56 : decode cX4_firstSet 56 = .ok (.iand, 1) := by decide +kernel
theorem dX4_firstSet_55 : decode cX4_firstSet 55 = .ok (.iload_n 3, 1) := by decide +kernel
theorem dX4_firstSet_53 : decode cX4_firstSet 53 = .ok (.iload 4, 2) := by decide +kernel
theorem dX4_firstSet_60 : decode cX4_firstSet 60 = .ok (.aload_n 0, 1) := by decide +kernel
theorem dX4_firstSet_61 : decode cX4_firstSet 61 = .ok (.getfield 21, 3) := by decide +kernel
theorem dX4_firstSet_70 : decode cX4_firstSet 70 = .ok (.iand, 1) := by decide +kernel
theorem dX4_firstSet_69 : decode cX4_firstSet 69 = .ok (.iload_n 2, 1) := by decide +kernel
theorem dX4_firstSet_67 : decode cX4_firstSet 67 = .ok (.iload 4, 2) := by decide +kernel
theorem dX4_firstSet_66 : decode cX4_firstSet 66 = .ok (.iadd, 1) := by decide +kernel
theorem dX4_firstSet_65 : decode cX4_firstSet 65 = .ok (.iconst 1, 1) := by decide +kernel
theorem dX4_firstSet_64 : decode cX4_firstSet 64 = .ok (.iload_n 1, 1) := by decide +kernel
theorem dX4_firstSet_71 : decode cX4_firstSet 71 = .ok (.invokestatic 64, 3) := by decide +kernel
theorem dX4_firstSet_86 : decode cX4_firstSet 86 = .ok (.goto (-57), 3) := by decide +kernel
theorem dX4_firstSet_83 : decode cX4_firstSet 83 = .ok (.iinc 4 1, 3) := by decide +kernel
theorem dX4_firstSet_74 : decode cX4_firstSet 74 = .ok (.invokevirtual 55, 3) := by decide +kernel
theorem dX4_firstSet_77 : decode cX4_firstSet 77 = .ok (.ifCond .eq 6, 3) := by decide +kernel
theorem dX4_firstSet_80 : decode cX4_firstSet 80 = .ok (.iload 4, 2) := by decide +kernel
theorem dX4_firstSet_82 : decode cX4_firstSet 82 = .ok (.ireturn, 1) := by decide +kernel
theorem dX6_has_0 : decode cX6_has 0 = .ok (.aload_n 0, 1) := by decide +kernel
theorem dX6_has_1 : decode cX6_has 1 = .ok (.getfield 16, 3) := by decide +kernel
theorem dX6_has_4 : decode cX6_has 4 = .ok (.iload_n 1, 1) := by decide +kernel
theorem dX6_has_5 : decode cX6_has 5 = .ok (.invokevirtual 24, 3) := by decide +kernel
theorem dX6_has_8 : decode cX6_has 8 = .ok (.ireturn, 1) := by decide +kernel
theorem dX6_bits_0 : decode cX6_bits 0 = .ok (.aload_n 0, 1) := by decide +kernel
theorem dX6_bits_1 : decode cX6_bits 1 = .ok (.getfield 16, 3) := by decide +kernel
theorem dX6_bits_5 : decode cX6_bits 5 = .ok (.iconst 0, 1) := by decide +kernel
theorem dX6_bits_4 : decode cX6_bits 4 = .ok (.iload_n 1, 1) := by decide +kernel
theorem dX6_bits_6 : decode cX6_bits 6 = .ok (.invokevirtual 28, 3) := by decide +kernel
theorem dX6_bits_9 : decode cX6_bits 9 = .ok (.ireturn, 1) := by decide +kernel
theorem dX6_size_0 : decode cX6_size 0 = .ok (.aload_n 0, 1) := by decide +kernel
theorem dX6_size_1 : decode cX6_size 1 = .ok (.getfield 16, 3) := by decide +kernel
theorem dX6_size_5 : decode cX6_size 5 = .ok (.iconst 1, 1) := by decide +kernel
theorem dX6_size_4 : decode cX6_size 4 = .ok (.iload_n 1, 1) := by decide +kernel
theorem dX6_size_6 : decode cX6_size 6 = .ok (.invokevirtual 28, 3) := by decide +kernel
theorem dX6_size_9 : decode cX6_size 9 = .ok (.ireturn, 1) := by decide +kernel
theorem dX6_wanting_1 : decode cX6_wanting 1 = .ok (.iload_n 1, 1) := by decide +kernel
theorem dX6_wanting_0 : decode cX6_wanting 0 = .ok (.aload_n 0, 1) := by decide +kernel
theorem dX6_wanting_2 : decode cX6_wanting 2 = .ok (.invokevirtual 32, 3) := by decide +kernel
theorem dX6_wanting_5 : decode cX6_wanting 5 = .ok (.ifCond .ne 5, 3) := by decide +kernel
theorem dX6_wanting_8 : decode cX6_wanting 8 = .ok (.iconst 1, 1) := by decide +kernel
theorem dX6_wanting_9 : decode cX6_wanting 9 = .ok (.ireturn, 1) := by decide +kernel
theorem dX6_wanting_11 : decode cX6_wanting 11 = .ok (.iload_n 1, 1) := by decide +kernel
theorem dX6_wanting_10 : decode cX6_wanting 10 = .ok (.aload_n 0, 1) := by decide +kernel
theorem dX6_wanting_12 : decode cX6_wanting 12 = .ok (.invokevirtual 33, 3) := by decide +kernel
theorem dX6_wanting_15 : decode cX6_wanting 15 = .ok (.ifCond .ne 7, 3) := by decide +kernel
theorem dX6_wanting_19 : decode cX6_wanting 19 = .ok (.goto 4, 3) := by decide +kernel
theorem dX6_wanting_18 : decode cX6_wanting 18 = .ok (.iconst 2, 1) := by decide +kernel
theorem dX6_wanting_23 : decode cX6_wanting 23 = .ok (.ireturn, 1) := by decide +kernel
theorem dX6_wanting_22 : decode cX6_wanting 22 = .ok (.iconst 0, 1) := by decide +kernel
theorem dX6_lay_0 : decode cX6_lay 0 = .ok (.aload_n 0, 1) := by decide +kernel
theorem dX6_lay_1 : decode cX6_lay 1 = .ok (.getfield 16, 3) := by decide +kernel
theorem dX6_lay_6 : decode cX6_lay 6 = .ok (.iload_n 2, 1) := by decide +kernel
theorem dX6_lay_5 : decode cX6_lay 5 = .ok (.iconst 0, 1) := by decide +kernel
theorem dX6_lay_4 : decode cX6_lay 4 = .ok (.iload_n 1, 1) := by decide +kernel
theorem dX6_lay_7 : decode cX6_lay 7 = .ok (.invokevirtual 36, 3) := by decide +kernel
theorem dX6_lay_10 : decode cX6_lay 10 = .ok (.aload_n 0, 1) := by decide +kernel
theorem dX6_lay_11 : decode cX6_lay 11 = .ok (.getfield 16, 3) := by decide +kernel
theorem dX6_lay_16 : decode cX6_lay 16 = .ok (.iload_n 3, 1) := by decide +kernel
theorem dX6_lay_15 : decode cX6_lay 15 = .ok (.iconst 1, 1) := by decide +kernel
theorem dX6_lay_14 : decode cX6_lay 14 = .ok (.iload_n 1, 1) := by decide +kernel
theorem dX6_lay_17 : decode cX6_lay 17 = .ok (.invokevirtual 36, 3) := by decide +kernel
theorem dX6_lay_21 : decode cX6_lay 21 = .ok (.istore 4, 2) := by decide +kernel
theorem dX6_lay_20 : decode cX6_lay 20 = .ok (.iconst 0, 1) := by decide +kernel
theorem dX6_lay_27 : decode cX6_lay 27 = .ok (.if_icmp .ge 22, 3) := by decide +kernel
theorem dX6_lay_25 : decode cX6_lay 25 = .ok (.bipush 24, 2) := by decide +kernel
theorem dX6_lay_23 : decode cX6_lay 23 = .ok (.iload 4, 2) := by decide +kernel
theorem dX6_lay_49 : decode cX6_lay 49 = .ok (.return_, 1) := by decide +kernel
theorem dX6_lay_30 : decode cX6_lay 30 = .ok (.aload_n 0, 1) := by decide +kernel
theorem dX6_lay_31 : decode cX6_lay 31 = .ok (.getfield 16, 3) := by decide +kernel
theorem dX6_lay_39 : decode cX6_lay 39 = .ok (.iconst 0, 1) := by decide +kernel
theorem dX6_lay_38 : decode cX6_lay 38 = .ok (.iadd, 1) := by decide +kernel
theorem dX6_lay_36 : decode cX6_lay 36 = .ok (.iload 4, 2) := by decide +kernel
theorem dX6_lay_35 : decode cX6_lay 35 = .ok (.iconst 2, 1) := by decide +kernel
theorem dX6_lay_34 : decode cX6_lay 34 = .ok (.iload_n 1, 1) := by decide +kernel
theorem dX6_lay_40 : decode cX6_lay 40 = .ok (.invokevirtual 36, 3) := by decide +kernel
theorem dX6_lay_46 : decode cX6_lay 46 = .ok (.goto (-23), 3) := by decide +kernel
theorem dX6_lay_43 : decode cX6_lay 43 = .ok (.iinc 4 1, 3) := by decide +kernel
theorem dX6_get_3 : decode cX6_get 3 = .ok (.iload_n 1, 1) := by decide +kernel
theorem dX6_get_2 : decode cX6_get 2 = .ok (.aload_n 0, 1) := by decide +kernel
theorem dX6_get_1 : decode cX6_get 1 = .ok (.iconst 0, 1) := by decide +kernel
theorem dX6_get_0 : decode cX6_get 0 = .ok (.iload_n 2, 1) := by decide +kernel
theorem dX6_get_4 : decode cX6_get 4 = .ok (.invokevirtual 40, 3) := by decide +kernel
theorem dX6_get_8 : decode cX6_get 8 = .ok (.isub, 1) := by decide +kernel
theorem dX6_get_7 : decode cX6_get 7 = .ok (.iconst 1, 1) := by decide +kernel
theorem dX6_get_9 : decode cX6_get 9 = .ok (.invokestatic 43, 3) := by decide +kernel
theorem dX6_get_12 : decode cX6_get 12 = .ok (.ifCond .eq 17, 3) := by decide +kernel
theorem dX6_get_29 : decode cX6_get 29 = .ok (.iconst 0, 1) := by decide +kernel
theorem dX6_get_30 : decode cX6_get 30 = .ok (.ireturn, 1) := by decide +kernel
theorem dX6_get_15 : decode cX6_get 15 = .ok (.aload_n 0, 1) := by decide +kernel
theorem dX6_get_16 : decode cX6_get 16 = .ok (.getfield 16, 3) := by decide +kernel
theorem dX6_get_22 : decode cX6_get 22 = .ok (.iadd, 1) := by decide +kernel
theorem dX6_get_21 : decode cX6_get 21 = .ok (.iload_n 2, 1) := by decide +kernel
theorem dX6_get_20 : decode cX6_get 20 = .ok (.iconst 2, 1) := by decide +kernel
theorem dX6_get_19 : decode cX6_get 19 = .ok (.iload_n 1, 1) := by decide +kernel
theorem dX6_get_23 : decode cX6_get 23 = .ok (.invokevirtual 28, 3) := by decide +kernel
theorem dX6_get_26 : decode cX6_get 26 = .ok (.goto 4, 3) := by decide +kernel
theorem dX6_write_3 : decode cX6_write 3 = .ok (.iload_n 1, 1) := by decide +kernel
theorem dX6_write_2 : decode cX6_write 2 = .ok (.aload_n 0, 1) := by decide +kernel
theorem dX6_write_1 : decode cX6_write 1 = .ok (.iconst 0, 1) := by decide +kernel
theorem dX6_write_0 : decode cX6_write 0 = .ok (.iload_n 2, 1) := by decide +kernel
theorem dX6_write_4 : decode cX6_write 4 = .ok (.invokevirtual 40, 3) := by decide +kernel
theorem dX6_write_8 : decode cX6_write 8 = .ok (.isub, 1) := by decide +kernel
theorem dX6_write_7 : decode cX6_write 7 = .ok (.iconst 1, 1) := by decide +kernel
theorem dX6_write_9 : decode cX6_write 9 = .ok (.invokestatic 43, 3) := by decide +kernel
theorem dX6_write_12 : decode cX6_write 12 = .ok (.ifCond .eq 46, 3) := by decide +kernel
theorem dX6_write_58 : decode cX6_write 58 = .ok (.return_, 1) := by decide +kernel
theorem dX6_write_16 : decode cX6_write 16 = .ok (.iload_n 1, 1) := by decide +kernel
theorem dX6_write_15 : decode cX6_write 15 = .ok (.aload_n 0, 1) := by decide +kernel
theorem dX6_write_17 : decode cX6_write 17 = .ok (.invokevirtual 33, 3) := by decide +kernel
theorem dX6_write_22 : decode cX6_write 22 = .ok (.aload_n 0, 1) := by decide +kernel
theorem dX6_write_20 : decode cX6_write 20 = .ok (.istore 4, 2) := by decide +kernel
theorem dX6_write_23 : decode cX6_write 23 = .ok (.getfield 16, 3) := by decide +kernel
theorem dX6_write_34 : decode cX6_write 34 = .ok (.if_icmp .ne 8, 3) := by decide +kernel
theorem dX6_write_32 : decode cX6_write 32 = .ok (.bipush 8, 2) := by decide +kernel
theorem dX6_write_30 : decode cX6_write 30 = .ok (.iload 4, 2) := by decide +kernel
theorem dX6_write_29 : decode cX6_write 29 = .ok (.iadd, 1) := by decide +kernel
theorem dX6_write_28 : decode cX6_write 28 = .ok (.iload_n 2, 1) := by decide +kernel
theorem dX6_write_27 : decode cX6_write 27 = .ok (.iconst 2, 1) := by decide +kernel
theorem dX6_write_26 : decode cX6_write 26 = .ok (.iload_n 1, 1) := by decide +kernel
theorem dX6_write_39 : decode cX6_write 39 = .ok (.goto 16, 3) := by decide +kernel
theorem dX6_write_38 : decode cX6_write 38 = .ok (.i2b, 1) := by decide +kernel
theorem dX6_write_37 : decode cX6_write 37 = .ok (.iload_n 3, 1) := by decide +kernel
theorem dX6_write_55 : decode cX6_write 55 = .ok (.invokevirtual 36, 3) := by decide +kernel
theorem dX6_write_46 : decode cX6_write 46 = .ok (.if_icmp .ne 8, 3) := by decide +kernel
theorem dX6_write_44 : decode cX6_write 44 = .ok (.bipush 16, 2) := by decide +kernel
theorem dX6_write_42 : decode cX6_write 42 = .ok (.iload 4, 2) := by decide +kernel
theorem dX6_write_51 : decode cX6_write 51 = .ok (.goto 4, 3) := by decide +kernel
theorem dX6_write_50 : decode cX6_write 50 = .ok (.i2s, 1) := by decide +kernel
theorem dX6_write_49 : decode cX6_write 49 = .ok (.iload_n 3, 1) := by decide +kernel
theorem dX6_write_54 : decode cX6_write 54 = .ok (.iload_n 3, 1) := by decide +kernel
theorem dX6_copy_2 : decode cX6_copy 2 = .ok (.ifCond .lt 37, 3) := by decide +kernel
theorem dX6_copy_0 : decode cX6_copy 0 = .ok (.iload 5, 2) := by decide +kernel
theorem dX6_copy_39 : decode cX6_copy 39 = .ok (.iconst 0, 1) := by decide +kernel
theorem dX6_copy_40 : decode cX6_copy 40 = .ok (.ireturn, 1) := by decide +kernel
theorem dX6_copy_6 : decode cX6_copy 6 = .ok (.ifCond .lt 33, 3) := by decide +kernel
theorem dX6_copy_5 : decode cX6_copy 5 = .ok (.iload_n 2, 1) := by decide +kernel
theorem dX6_copy_11 : decode cX6_copy 11 = .ok (.ifCond .lt 28, 3) := by decide +kernel
theorem dX6_copy_9 : decode cX6_copy 9 = .ok (.iload 4, 2) := by decide +kernel
theorem dX6_copy_16 : decode cX6_copy 16 = .ok (.iload_n 1, 1) := by decide +kernel
theorem dX6_copy_15 : decode cX6_copy 15 = .ok (.aload_n 0, 1) := by decide +kernel
theorem dX6_copy_14 : decode cX6_copy 14 = .ok (.iload_n 2, 1) := by decide +kernel
theorem dX6_copy_17 : decode cX6_copy 17 = .ok (.invokevirtual 40, 3) := by decide +kernel
theorem dX6_copy_23 : decode cX6_copy 23 = .ok (.if_icmp .gt 16, 3) := by decide +kernel
theorem dX6_copy_22 : decode cX6_copy 22 = .ok (.isub, 1) := by decide +kernel
theorem dX6_copy_20 : decode cX6_copy 20 = .ok (.iload 5, 2) := by decide +kernel
theorem dX6_copy_29 : decode cX6_copy 29 = .ok (.iload_n 3, 1) := by decide +kernel
theorem dX6_copy_28 : decode cX6_copy 28 = .ok (.aload_n 0, 1) := by decide +kernel
theorem dX6_copy_26 : decode cX6_copy 26 = .ok (.iload 4, 2) := by decide +kernel
theorem dX6_copy_30 : decode cX6_copy 30 = .ok (.invokevirtual 40, 3) := by decide +kernel
theorem dX6_copy_36 : decode cX6_copy 36 = .ok (.if_icmp .le 5, 3) := by decide +kernel
theorem dX6_copy_35 : decode cX6_copy 35 = .ok (.isub, 1) := by decide +kernel
theorem dX6_copy_33 : decode cX6_copy 33 = .ok (.iload 5, 2) := by decide +kernel
theorem dX6_copy_44 : decode cX6_copy 44 = .ok (.if_icmp .le 7, 3) := by decide +kernel
theorem dX6_copy_43 : decode cX6_copy 43 = .ok (.iload_n 2, 1) := by decide +kernel
theorem dX6_copy_41 : decode cX6_copy 41 = .ok (.iload 4, 2) := by decide +kernel
theorem dX6_copy_55 : decode cX6_copy 55 = .ok (.istore 7, 2) := by decide +kernel
theorem dX6_copy_54 : decode cX6_copy 54 = .ok (.iconst 0, 1) := by decide +kernel
theorem dX6_copy_52 : decode cX6_copy 52 = .ok (.istore 6, 2) := by decide +kernel
theorem dX6_copy_51 : decode cX6_copy 51 = .ok (.iconst 0, 1) := by decide +kernel
theorem dX6_copy_48 : decode cX6_copy 48 = .ok (.goto 4, 3) := by decide +kernel
theorem dX6_copy_47 : decode cX6_copy 47 = .ok (.iconst 1, 1) := by decide +kernel
theorem dX6_copy_61 : decode cX6_copy 61 = .ok (.if_icmp .ge 47, 3) := by decide +kernel
theorem dX6_copy_59 : decode cX6_copy 59 = .ok (.iload 5, 2) := by decide +kernel
theorem dX6_copy_57 : decode cX6_copy 57 = .ok (.iload 7, 2) := by decide +kernel
theorem dX6_copy_108 : decode cX6_copy 108 = .ok (.iconst 1, 1) := by decide +kernel
theorem dX6_copy_109 : decode cX6_copy 109 = .ok (.ireturn, 1) := by decide +kernel
theorem dX6_copy_66 : decode cX6_copy 66 = .ok (.ifCond .eq 13, 3) := by decide +kernel
theorem dX6_copy_64 : decode cX6_copy 64 = .ok (.iload 6, 2) := by decide +kernel
theorem dX6_copy_95 : decode cX6_copy 95 = .ok (.iadd, 1) := by decide +kernel
theorem dX6_copy_93 : decode cX6_copy 93 = .ok (.iload 8, 2) := by decide +kernel
theorem dX6_copy_92 : decode cX6_copy 92 = .ok (.iload_n 2, 1) := by decide +kernel
theorem dX6_copy_91 : decode cX6_copy 91 = .ok (.iload_n 1, 1) := by decide +kernel
theorem dX6_copy_90 : decode cX6_copy 90 = .ok (.aload_n 0, 1) := by decide +kernel
theorem dX6_copy_89 : decode cX6_copy 89 = .ok (.iadd, 1) := by decide +kernel
theorem dX6_copy_87 : decode cX6_copy 87 = .ok (.iload 8, 2) := by decide +kernel
theorem dX6_copy_85 : decode cX6_copy 85 = .ok (.iload 4, 2) := by decide +kernel
theorem dX6_copy_84 : decode cX6_copy 84 = .ok (.iload_n 3, 1) := by decide +kernel
theorem dX6_copy_83 : decode cX6_copy 83 = .ok (.aload_n 0, 1) := by decide +kernel
theorem dX6_copy_81 : decode cX6_copy 81 = .ok (.istore 8, 2) := by decide +kernel
theorem dX6_copy_79 : decode cX6_copy 79 = .ok (.iload 7, 2) := by decide +kernel
theorem dX6_copy_96 : decode cX6_copy 96 = .ok (.invokevirtual 47, 3) := by decide +kernel
theorem dX6_copy_76 : decode cX6_copy 76 = .ok (.goto 5, 3) := by decide +kernel
theorem dX6_copy_75 : decode cX6_copy 75 = .ok (.isub, 1) := by decide +kernel
theorem dX6_copy_73 : decode cX6_copy 73 = .ok (.iload 7, 2) := by decide +kernel
theorem dX6_copy_72 : decode cX6_copy 72 = .ok (.isub, 1) := by decide +kernel
theorem dX6_copy_71 : decode cX6_copy 71 = .ok (.iconst 1, 1) := by decide +kernel
theorem dX6_copy_69 : decode cX6_copy 69 = .ok (.iload 5, 2) := by decide +kernel
theorem dX6_copy_99 : decode cX6_copy 99 = .ok (.invokevirtual 48, 3) := by decide +kernel
theorem dX6_copy_105 : decode cX6_copy 105 = .ok (.goto (-48), 3) := by decide +kernel
theorem dX6_copy_102 : decode cX6_copy 102 = .ok (.iinc 7 1, 3) := by decide +kernel
theorem dX8_read_1 : decode cX8_read 1 = .ok (.iload_n 1, 1) := by decide +kernel
theorem dX8_read_0 : decode cX8_read 0 = .ok (.aload_n 0, 1) := by decide +kernel
theorem dX8_read_2 : decode cX8_read 2 = .ok (.putfield 21, 3) := by decide +kernel
theorem dX8_read_6 : decode cX8_read 6 = .ok (.iconst 0, 1) := by decide +kernel
theorem dX8_read_5 : decode cX8_read 5 = .ok (.aload_n 0, 1) := by decide +kernel
theorem dX8_read_7 : decode cX8_read 7 = .ok (.putfield 17, 3) := by decide +kernel
theorem dX8_read_11 : decode cX8_read 11 = .ok (.iconst 0, 1) := by decide +kernel
theorem dX8_read_10 : decode cX8_read 10 = .ok (.aload_n 0, 1) := by decide +kernel
theorem dX8_read_12 : decode cX8_read 12 = .ok (.putfield 24, 3) := by decide +kernel
theorem dX8_read_17 : decode cX8_read 17 = .ok (.iconst 0, 1) := by decide +kernel
theorem dX8_read_16 : decode cX8_read 16 = .ok (.iconst 0, 1) := by decide +kernel
theorem dX8_read_15 : decode cX8_read 15 = .ok (.aload_n 0, 1) := by decide +kernel
theorem dX8_read_18 : decode cX8_read 18 = .ok (.invokevirtual 31, 3) := by decide +kernel
theorem dX8_read_21 : decode cX8_read 21 = .ok (.ifCond .eq 21, 3) := by decide +kernel
theorem dX8_read_42 : decode cX8_read 42 = .ok (.iconst 0, 1) := by decide +kernel
theorem dX8_read_43 : decode cX8_read 43 = .ok (.ireturn, 1) := by decide +kernel
theorem dX8_read_24 : decode cX8_read 24 = .ok (.aload_n 0, 1) := by decide +kernel
theorem dX8_read_25 : decode cX8_read 25 = .ok (.getfield 24, 3) := by decide +kernel
theorem dX8_read_28 : decode cX8_read 28 = .ok (.aload_n 0, 1) := by decide +kernel
theorem dX8_read_29 : decode cX8_read 29 = .ok (.getfield 27, 3) := by decide +kernel
theorem dX8_read_32 : decode cX8_read 32 = .ok (.invokevirtual 35, 3) := by decide +kernel
theorem dX8_read_35 : decode cX8_read 35 = .ok (.if_icmp .ne 7, 3) := by decide +kernel
theorem dX8_read_39 : decode cX8_read 39 = .ok (.goto 4, 3) := by decide +kernel
theorem dX8_read_38 : decode cX8_read 38 = .ok (.iconst 1, 1) := by decide +kernel
theorem dX8_place_0 : decode cX8_place 0 = .ok (.aload_n 0, 1) := by decide +kernel
theorem dX8_place_1 : decode cX8_place 1 = .ok (.getfield 24, 3) := by decide +kernel
theorem dX8_place_4 : decode cX8_place 4 = .ok (.ireturn, 1) := by decide +kernel
theorem dX8_size_0 : decode cX8_size 0 = .ok (.aload_n 0, 1) := by decide +kernel
theorem dX8_size_1 : decode cX8_size 1 = .ok (.getfield 17, 3) := by decide +kernel
theorem dX8_size_4 : decode cX8_size 4 = .ok (.ireturn, 1) := by decide +kernel
theorem dX8_code_1 : decode cX8_code 1 = .ok (.ifCond .lt 21, 3) := by decide +kernel
theorem dX8_code_0 : decode cX8_code 0 = .ok (.iload_n 1, 1) := by decide +kernel
theorem dX8_code_22 : decode cX8_code 22 = .ok (.iconst 0, 1) := by decide +kernel
theorem dX8_code_23 : decode cX8_code 23 = .ok (.ireturn, 1) := by decide +kernel
theorem dX8_code_5 : decode cX8_code 5 = .ok (.aload_n 0, 1) := by decide +kernel
theorem dX8_code_4 : decode cX8_code 4 = .ok (.iload_n 1, 1) := by decide +kernel
theorem dX8_code_6 : decode cX8_code 6 = .ok (.getfield 11, 3) := by decide +kernel
theorem dX8_code_9 : decode cX8_code 9 = .ok (.arraylength, 1) := by decide +kernel
theorem dX8_code_10 : decode cX8_code 10 = .ok (.if_icmp .ge 12, 3) := by decide +kernel
theorem dX8_code_13 : decode cX8_code 13 = .ok (.aload_n 0, 1) := by decide +kernel
theorem dX8_code_14 : decode cX8_code 14 = .ok (.getfield 11, 3) := by decide +kernel
theorem dX8_code_17 : decode cX8_code 17 = .ok (.iload_n 1, 1) := by decide +kernel
theorem dX8_code_18 : decode cX8_code 18 = .ok (.iaload, 1) := by decide +kernel
theorem dX8_code_19 : decode cX8_code 19 = .ok (.goto 4, 3) := by decide +kernel
theorem dX8_level_2 : decode cX8_level 2 = .ok (.if_icmp .lt 9, 3) := by decide +kernel
theorem dX8_level_1 : decode cX8_level 1 = .ok (.iconst 5, 1) := by decide +kernel
theorem dX8_level_0 : decode cX8_level 0 = .ok (.iload_n 1, 1) := by decide +kernel
theorem dX8_level_15 : decode cX8_level 15 = .ok (.iload_n 2, 1) := by decide +kernel
theorem dX8_level_14 : decode cX8_level 14 = .ok (.iadd, 1) := by decide +kernel
theorem dX8_level_13 : decode cX8_level 13 = .ok (.iconst 1, 1) := by decide +kernel
theorem dX8_level_12 : decode cX8_level 12 = .ok (.iload_n 1, 1) := by decide +kernel
theorem dX8_level_11 : decode cX8_level 11 = .ok (.aload_n 0, 1) := by decide +kernel
theorem dX8_level_16 : decode cX8_level 16 = .ok (.invokevirtual 31, 3) := by decide +kernel
theorem dX8_level_6 : decode cX8_level 6 = .ok (.iload_n 2, 1) := by decide +kernel
theorem dX8_level_5 : decode cX8_level 5 = .ok (.aload_n 0, 1) := by decide +kernel
theorem dX8_level_7 : decode cX8_level 7 = .ok (.invokevirtual 41, 3) := by decide +kernel
theorem dX8_level_19 : decode cX8_level 19 = .ok (.ifCond .ne 5, 3) := by decide +kernel
theorem dX8_level_22 : decode cX8_level 22 = .ok (.iconst 0, 1) := by decide +kernel
theorem dX8_level_23 : decode cX8_level 23 = .ok (.ireturn, 1) := by decide +kernel
theorem dX8_level_26 : decode cX8_level 26 = .ok (.if_icmp .ne 7, 3) := by decide +kernel
theorem dX8_level_25 : decode cX8_level 25 = .ok (.iconst 2, 1) := by decide +kernel
theorem dX8_level_24 : decode cX8_level 24 = .ok (.iload_n 1, 1) := by decide +kernel
theorem dX8_level_30 : decode cX8_level 30 = .ok (.goto 5, 3) := by decide +kernel
theorem dX8_level_29 : decode cX8_level 29 = .ok (.iconst 1, 1) := by decide +kernel
theorem dX8_level_37 : decode cX8_level 37 = .ok (.istore 4, 2) := by decide +kernel
theorem dX8_level_36 : decode cX8_level 36 = .ok (.iconst 0, 1) := by decide +kernel
theorem dX8_level_35 : decode cX8_level 35 = .ok (.istore_n 3, 1) := by decide +kernel
theorem dX8_level_33 : decode cX8_level 33 = .ok (.bipush 50, 2) := by decide +kernel
theorem dX8_level_10 : decode cX8_level 10 = .ok (.ireturn, 1) := by decide +kernel
theorem dX8_level_42 : decode cX8_level 42 = .ok (.if_icmp .ge 59, 3) := by decide +kernel
theorem dX8_level_41 : decode cX8_level 41 = .ok (.iload_n 3, 1) := by decide +kernel
theorem dX8_level_39 : decode cX8_level 39 = .ok (.iload 4, 2) := by decide +kernel
theorem dX8_level_101 : decode cX8_level 101 = .ok (.iconst 1, 1) := by decide +kernel
theorem dX8_level_102 : decode cX8_level 102 = .ok (.ireturn, 1) := by decide +kernel
theorem dX8_level_45 : decode cX8_level 45 = .ok (.aload_n 0, 1) := by decide +kernel
theorem dX8_level_46 : decode cX8_level 46 = .ok (.invokevirtual 45, 3) := by decide +kernel
theorem dX8_level_49 : decode cX8_level 49 = .ok (.iload_n 1, 1) := by decide +kernel
theorem dX8_level_50 : decode cX8_level 50 = .ok (.invokestatic 48, 3) := by decide +kernel
theorem dX8_level_53 : decode cX8_level 53 = .ok (.ifCond .eq 48, 3) := by decide +kernel
theorem dX8_level_56 : decode cX8_level 56 = .ok (.aload_n 0, 1) := by decide +kernel
theorem dX8_level_57 : decode cX8_level 57 = .ok (.invokevirtual 45, 3) := by decide +kernel
theorem dX8_level_63 : decode cX8_level 63 = .ok (.dup, 1) := by decide +kernel
theorem dX8_level_62 : decode cX8_level 62 = .ok (.aload_n 0, 1) := by decide +kernel
theorem dX8_level_60 : decode cX8_level 60 = .ok (.istore 5, 2) := by decide +kernel
theorem dX8_level_64 : decode cX8_level 64 = .ok (.getfield 24, 3) := by decide +kernel
theorem dX8_level_68 : decode cX8_level 68 = .ok (.iadd, 1) := by decide +kernel
theorem dX8_level_67 : decode cX8_level 67 = .ok (.iconst 1, 1) := by decide +kernel
theorem dX8_level_69 : decode cX8_level 69 = .ok (.putfield 24, 3) := by decide +kernel
theorem dX8_level_76 : decode cX8_level 76 = .ok (.iload_n 2, 1) := by decide +kernel
theorem dX8_level_75 : decode cX8_level 75 = .ok (.iadd, 1) := by decide +kernel
theorem dX8_level_74 : decode cX8_level 74 = .ok (.iconst 1, 1) := by decide +kernel
theorem dX8_level_73 : decode cX8_level 73 = .ok (.iload_n 1, 1) := by decide +kernel
theorem dX8_level_72 : decode cX8_level 72 = .ok (.aload_n 0, 1) := by decide +kernel
theorem dX8_level_77 : decode cX8_level 77 = .ok (.invokevirtual 31, 3) := by decide +kernel
theorem dX8_level_80 : decode cX8_level 80 = .ok (.ifCond .ne 5, 3) := by decide +kernel
theorem dX8_level_83 : decode cX8_level 83 = .ok (.iconst 0, 1) := by decide +kernel
theorem dX8_level_84 : decode cX8_level 84 = .ok (.ireturn, 1) := by decide +kernel
theorem dX8_level_91 : decode cX8_level 91 = .ok (.iadd, 1) := by decide +kernel
theorem dX8_level_89 : decode cX8_level 89 = .ok (.iload 5, 2) := by decide +kernel
theorem dX8_level_86 : decode cX8_level 86 = .ok (.sipush 2000, 3) := by decide +kernel
theorem dX8_level_85 : decode cX8_level 85 = .ok (.aload_n 0, 1) := by decide +kernel
theorem dX8_level_92 : decode cX8_level 92 = .ok (.invokevirtual 51, 3) := by decide +kernel
theorem dX8_level_98 : decode cX8_level 98 = .ok (.goto (-59), 3) := by decide +kernel
theorem dX8_level_95 : decode cX8_level 95 = .ok (.iinc 4 1, 3) := by decide +kernel
theorem dX8_joins_0 : decode cX8_joins 0 = .ok (.iload_n 1, 1) := by decide +kernel
theorem dX8_joins_1 : decode cX8_joins 1 = .ok (.tableswitch 97 0 3 #[31, 43, 55, 79], 31) := by decide +kernel
theorem dX8_joins_35 : decode cX8_joins 35 = .ok (.if_icmp .ne 7, 3) := by decide +kernel
theorem dX8_joins_33 : decode cX8_joins 33 = .ok (.bipush 124, 2) := by decide +kernel
theorem dX8_joins_32 : decode cX8_joins 32 = .ok (.iload_n 0, 1) := by decide +kernel
theorem dX8_joins_39 : decode cX8_joins 39 = .ok (.goto 4, 3) := by decide +kernel
theorem dX8_joins_38 : decode cX8_joins 38 = .ok (.iconst 1, 1) := by decide +kernel
theorem dX8_joins_43 : decode cX8_joins 43 = .ok (.ireturn, 1) := by decide +kernel
theorem dX8_joins_42 : decode cX8_joins 42 = .ok (.iconst 0, 1) := by decide +kernel
theorem dX8_joins_47 : decode cX8_joins 47 = .ok (.if_icmp .ne 7, 3) := by decide +kernel
theorem dX8_joins_45 : decode cX8_joins 45 = .ok (.bipush 38, 2) := by decide +kernel
theorem dX8_joins_44 : decode cX8_joins 44 = .ok (.iload_n 0, 1) := by decide +kernel
theorem dX8_joins_51 : decode cX8_joins 51 = .ok (.goto 4, 3) := by decide +kernel
theorem dX8_joins_50 : decode cX8_joins 50 = .ok (.iconst 1, 1) := by decide +kernel
theorem dX8_joins_55 : decode cX8_joins 55 = .ok (.ireturn, 1) := by decide +kernel
theorem dX8_joins_54 : decode cX8_joins 54 = .ok (.iconst 0, 1) := by decide +kernel
theorem dX8_joins_59 : decode cX8_joins 59 = .ok (.if_icmp .eq 15, 3) := by decide +kernel
theorem dX8_joins_57 : decode cX8_joins 57 = .ok (.bipush 60, 2) := by decide +kernel
theorem dX8_joins_56 : decode cX8_joins 56 = .ok (.iload_n 0, 1) := by decide +kernel
theorem dX8_joins_75 : decode cX8_joins 75 = .ok (.goto 4, 3) := by decide +kernel
theorem dX8_joins_74 : decode cX8_joins 74 = .ok (.iconst 1, 1) := by decide +kernel
theorem dX8_joins_79 : decode cX8_joins 79 = .ok (.ireturn, 1) := by decide +kernel
theorem dX8_joins_65 : decode cX8_joins 65 = .ok (.if_icmp .eq 9, 3) := by decide +kernel
theorem dX8_joins_63 : decode cX8_joins 63 = .ok (.bipush 61, 2) := by decide +kernel
theorem dX8_joins_62 : decode cX8_joins 62 = .ok (.iload_n 0, 1) := by decide +kernel
theorem dX8_joins_71 : decode cX8_joins 71 = .ok (.if_icmp .ne 7, 3) := by decide +kernel
theorem dX8_joins_69 : decode cX8_joins 69 = .ok (.bipush 62, 2) := by decide +kernel
theorem dX8_joins_68 : decode cX8_joins 68 = .ok (.iload_n 0, 1) := by decide +kernel
theorem dX8_joins_78 : decode cX8_joins 78 = .ok (.iconst 0, 1) := by decide +kernel
theorem dX8_joins_83 : decode cX8_joins 83 = .ok (.if_icmp .eq 9, 3) := by decide +kernel
theorem dX8_joins_81 : decode cX8_joins 81 = .ok (.bipush 43, 2) := by decide +kernel
theorem dX8_joins_80 : decode cX8_joins 80 = .ok (.iload_n 0, 1) := by decide +kernel
theorem dX8_joins_93 : decode cX8_joins 93 = .ok (.goto 4, 3) := by decide +kernel
theorem dX8_joins_92 : decode cX8_joins 92 = .ok (.iconst 1, 1) := by decide +kernel
theorem dX8_joins_97 : decode cX8_joins 97 = .ok (.ireturn, 1) := by decide +kernel
theorem dX8_joins_89 : decode cX8_joins 89 = .ok (.if_icmp .ne 7, 3) := by decide +kernel
theorem dX8_joins_87 : decode cX8_joins 87 = .ok (.bipush 45, 2) := by decide +kernel
theorem dX8_joins_86 : decode cX8_joins 86 = .ok (.iload_n 0, 1) := by decide +kernel
theorem dX8_joins_96 : decode cX8_joins 96 = .ok (.iconst 0, 1) := by decide +kernel
theorem dX8_joins_101 : decode cX8_joins 101 = .ok (.if_icmp .ne 7, 3) := by decide +kernel
theorem dX8_joins_99 : decode cX8_joins 99 = .ok (.bipush 42, 2) := by decide +kernel
theorem dX8_joins_98 : decode cX8_joins 98 = .ok (.iload_n 0, 1) := by decide +kernel
theorem dX8_joins_105 : decode cX8_joins 105 = .ok (.goto 4, 3) := by decide +kernel
theorem dX8_joins_104 : decode cX8_joins 104 = .ok (.iconst 1, 1) := by decide +kernel
theorem dX8_joins_109 : decode cX8_joins 109 = .ok (.ireturn, 1) := by decide +kernel
theorem dX8_joins_108 : decode cX8_joins 108 = .ok (.iconst 0, 1) := by decide +kernel
theorem dX8_part_0 : decode cX8_part 0 = .ok (.aload_n 0, 1) := by decide +kernel
theorem dX8_part_1 : decode cX8_part 1 = .ok (.invokevirtual 45, 3) := by decide +kernel
theorem dX8_part_5 : decode cX8_part 5 = .ok (.iload_n 2, 1) := by decide +kernel
theorem dX8_part_4 : decode cX8_part 4 = .ok (.istore_n 2, 1) := by decide +kernel
theorem dX8_part_6 : decode cX8_part 6 = .ok (.invokestatic 55, 3) := by decide +kernel
theorem dX8_part_9 : decode cX8_part 9 = .ok (.ifCond .eq 8, 3) := by decide +kernel
theorem dX8_part_18 : decode cX8_part 18 = .ok (.iload_n 2, 1) := by decide +kernel
theorem dX8_part_17 : decode cX8_part 17 = .ok (.aload_n 0, 1) := by decide +kernel
theorem dX8_part_19 : decode cX8_part 19 = .ok (.invokevirtual 62, 3) := by decide +kernel
theorem dX8_part_12 : decode cX8_part 12 = .ok (.aload_n 0, 1) := by decide +kernel
theorem dX8_part_13 : decode cX8_part 13 = .ok (.invokevirtual 58, 3) := by decide +kernel
theorem dX8_part_24 : decode cX8_part 24 = .ok (.ifCond .lt 24, 3) := by decide +kernel
theorem dX8_part_23 : decode cX8_part 23 = .ok (.iload_n 3, 1) := by decide +kernel
theorem dX8_part_22 : decode cX8_part 22 = .ok (.istore_n 3, 1) := by decide +kernel
theorem dX8_part_51 : decode cX8_part 51 = .ok (.if_icmp .eq 9, 3) := by decide +kernel
theorem dX8_part_49 : decode cX8_part 49 = .ok (.bipush 33, 2) := by decide +kernel
theorem dX8_part_48 : decode cX8_part 48 = .ok (.iload_n 2, 1) := by decide +kernel
theorem dX8_part_62 : decode cX8_part 62 = .ok (.if_icmp .lt 5, 3) := by decide +kernel
theorem dX8_part_61 : decode cX8_part 61 = .ok (.iconst 5, 1) := by decide +kernel
theorem dX8_part_60 : decode cX8_part 60 = .ok (.iload_n 1, 1) := by decide +kernel
theorem dX8_part_68 : decode cX8_part 68 = .ok (.dup, 1) := by decide +kernel
theorem dX8_part_67 : decode cX8_part 67 = .ok (.aload_n 0, 1) := by decide +kernel
theorem dX8_part_69 : decode cX8_part 69 = .ok (.getfield 24, 3) := by decide +kernel
theorem dX8_part_73 : decode cX8_part 73 = .ok (.iadd, 1) := by decide +kernel
theorem dX8_part_72 : decode cX8_part 72 = .ok (.iconst 1, 1) := by decide +kernel
theorem dX8_part_74 : decode cX8_part 74 = .ok (.putfield 24, 3) := by decide +kernel
theorem dX8_part_80 : decode cX8_part 80 = .ok (.if_icmp .ne 13, 3) := by decide +kernel
theorem dX8_part_78 : decode cX8_part 78 = .ok (.bipush 33, 2) := by decide +kernel
theorem dX8_part_77 : decode cX8_part 77 = .ok (.iload_n 2, 1) := by decide +kernel
theorem dX8_part_86 : decode cX8_part 86 = .ok (.iadd, 1) := by decide +kernel
theorem dX8_part_85 : decode cX8_part 85 = .ok (.iconst 1, 1) := by decide +kernel
theorem dX8_part_84 : decode cX8_part 84 = .ok (.iload_n 1, 1) := by decide +kernel
theorem dX8_part_83 : decode cX8_part 83 = .ok (.aload_n 0, 1) := by decide +kernel
theorem dX8_part_87 : decode cX8_part 87 = .ok (.invokevirtual 66, 3) := by decide +kernel
theorem dX8_part_96 : decode cX8_part 96 = .ok (.iadd, 1) := by decide +kernel
theorem dX8_part_95 : decode cX8_part 95 = .ok (.iconst 1, 1) := by decide +kernel
theorem dX8_part_94 : decode cX8_part 94 = .ok (.iload_n 1, 1) := by decide +kernel
theorem dX8_part_93 : decode cX8_part 93 = .ok (.aload_n 0, 1) := by decide +kernel
theorem dX8_part_97 : decode cX8_part 97 = .ok (.invokevirtual 69, 3) := by decide +kernel
theorem dX8_part_65 : decode cX8_part 65 = .ok (.iconst 0, 1) := by decide +kernel
theorem dX8_part_66 : decode cX8_part 66 = .ok (.ireturn, 1) := by decide +kernel
theorem dX8_part_57 : decode cX8_part 57 = .ok (.if_icmp .ne 8, 3) := by decide +kernel
theorem dX8_part_55 : decode cX8_part 55 = .ok (.bipush 40, 2) := by decide +kernel
theorem dX8_part_54 : decode cX8_part 54 = .ok (.iload_n 2, 1) := by decide +kernel
theorem dX8_part_28 : decode cX8_part 28 = .ok (.dup, 1) := by decide +kernel
theorem dX8_part_27 : decode cX8_part 27 = .ok (.aload_n 0, 1) := by decide +kernel
theorem dX8_part_29 : decode cX8_part 29 = .ok (.getfield 24, 3) := by decide +kernel
theorem dX8_part_33 : decode cX8_part 33 = .ok (.iadd, 1) := by decide +kernel
theorem dX8_part_32 : decode cX8_part 32 = .ok (.iconst 1, 1) := by decide +kernel
theorem dX8_part_34 : decode cX8_part 34 = .ok (.putfield 24, 3) := by decide +kernel
theorem dX8_part_42 : decode cX8_part 42 = .ok (.iadd, 1) := by decide +kernel
theorem dX8_part_41 : decode cX8_part 41 = .ok (.iload_n 3, 1) := by decide +kernel
theorem dX8_part_38 : decode cX8_part 38 = .ok (.sipush 1000, 3) := by decide +kernel
theorem dX8_part_37 : decode cX8_part 37 = .ok (.aload_n 0, 1) := by decide +kernel
theorem dX8_part_43 : decode cX8_part 43 = .ok (.invokevirtual 51, 3) := by decide +kernel
theorem dX8_part_16 : decode cX8_part 16 = .ok (.ireturn, 1) := by decide +kernel
theorem dX8_part_90 : decode cX8_part 90 = .ok (.goto 10, 3) := by decide +kernel
theorem dX8_part_100 : decode cX8_part 100 = .ok (.ireturn, 1) := by decide +kernel
theorem dX8_part_46 : decode cX8_part 46 = .ok (.iconst 1, 1) := by decide +kernel
theorem dX8_part_47 : decode cX8_part 47 = .ok (.ireturn, 1) := by decide +kernel
theorem dX8_turned_1 : decode cX8_turned 1 = .ok (.iload_n 1, 1) := by decide +kernel
theorem dX8_turned_0 : decode cX8_turned 0 = .ok (.aload_n 0, 1) := by decide +kernel
theorem dX8_turned_2 : decode cX8_turned 2 = .ok (.invokevirtual 41, 3) := by decide +kernel
theorem dX8_turned_5 : decode cX8_turned 5 = .ok (.ifCond .ne 5, 3) := by decide +kernel
theorem dX8_turned_8 : decode cX8_turned 8 = .ok (.iconst 0, 1) := by decide +kernel
theorem dX8_turned_9 : decode cX8_turned 9 = .ok (.ireturn, 1) := by decide +kernel
theorem dX8_turned_11 : decode cX8_turned 11 = .ok (.sipush 2033, 3) := by decide +kernel
theorem dX8_turned_10 : decode cX8_turned 10 = .ok (.aload_n 0, 1) := by decide +kernel
theorem dX8_turned_14 : decode cX8_turned 14 = .ok (.invokevirtual 51, 3) := by decide +kernel
theorem dX8_turned_17 : decode cX8_turned 17 = .ok (.iconst 1, 1) := by decide +kernel
theorem dX8_turned_18 : decode cX8_turned 18 = .ok (.ireturn, 1) := by decide +kernel
theorem dX8_bracketed_2 : decode cX8_bracketed 2 = .ok (.iload_n 1, 1) := by decide +kernel
theorem dX8_bracketed_1 : decode cX8_bracketed 1 = .ok (.iconst 0, 1) := by decide +kernel
theorem dX8_bracketed_0 : decode cX8_bracketed 0 = .ok (.aload_n 0, 1) := by decide +kernel
theorem dX8_bracketed_3 : decode cX8_bracketed 3 = .ok (.invokevirtual 31, 3) := by decide +kernel
theorem dX8_bracketed_6 : decode cX8_bracketed 6 = .ok (.ifCond .eq 12, 3) := by decide +kernel
theorem dX8_bracketed_18 : decode cX8_bracketed 18 = .ok (.iconst 0, 1) := by decide +kernel
theorem dX8_bracketed_19 : decode cX8_bracketed 19 = .ok (.ireturn, 1) := by decide +kernel
theorem dX8_bracketed_9 : decode cX8_bracketed 9 = .ok (.aload_n 0, 1) := by decide +kernel
theorem dX8_bracketed_10 : decode cX8_bracketed 10 = .ok (.invokevirtual 45, 3) := by decide +kernel
theorem dX8_bracketed_15 : decode cX8_bracketed 15 = .ok (.if_icmp .eq 5, 3) := by decide +kernel
theorem dX8_bracketed_13 : decode cX8_bracketed 13 = .ok (.bipush 41, 2) := by decide +kernel
theorem dX8_bracketed_21 : decode cX8_bracketed 21 = .ok (.dup, 1) := by decide +kernel
theorem dX8_bracketed_20 : decode cX8_bracketed 20 = .ok (.aload_n 0, 1) := by decide +kernel
theorem dX8_bracketed_22 : decode cX8_bracketed 22 = .ok (.getfield 24, 3) := by decide +kernel
theorem dX8_bracketed_26 : decode cX8_bracketed 26 = .ok (.iadd, 1) := by decide +kernel
theorem dX8_bracketed_25 : decode cX8_bracketed 25 = .ok (.iconst 1, 1) := by decide +kernel
theorem dX8_bracketed_27 : decode cX8_bracketed 27 = .ok (.putfield 24, 3) := by decide +kernel
theorem dX8_bracketed_30 : decode cX8_bracketed 30 = .ok (.iconst 1, 1) := by decide +kernel
theorem dX8_bracketed_31 : decode cX8_bracketed 31 = .ok (.ireturn, 1) := by decide +kernel
theorem dX8_number_3 : decode cX8_number 3 = .ok (.istore_n 2, 1) := by decide +kernel
theorem dX8_number_2 : decode cX8_number 2 = .ok (.iconst 0, 1) := by decide +kernel
theorem dX8_number_1 : decode cX8_number 1 = .ok (.istore_n 1, 1) := by decide +kernel
theorem dX8_number_0 : decode cX8_number 0 = .ok (.iconst 0, 1) := by decide +kernel
theorem dX8_number_6 : decode cX8_number 6 = .ok (.if_icmp .ge 42, 3) := by decide +kernel
theorem dX8_number_5 : decode cX8_number 5 = .ok (.iconst 3, 1) := by decide +kernel
theorem dX8_number_4 : decode cX8_number 4 = .ok (.iload_n 2, 1) := by decide +kernel
theorem dX8_number_49 : decode cX8_number 49 = .ok (.iload_n 1, 1) := by decide +kernel
theorem dX8_number_48 : decode cX8_number 48 = .ok (.aload_n 0, 1) := by decide +kernel
theorem dX8_number_50 : decode cX8_number 50 = .ok (.invokevirtual 51, 3) := by decide +kernel
theorem dX8_number_9 : decode cX8_number 9 = .ok (.aload_n 0, 1) := by decide +kernel
theorem dX8_number_10 : decode cX8_number 10 = .ok (.invokevirtual 45, 3) := by decide +kernel
theorem dX8_number_53 : decode cX8_number 53 = .ok (.iconst 1, 1) := by decide +kernel
theorem dX8_number_54 : decode cX8_number 54 = .ok (.ireturn, 1) := by decide +kernel
theorem dX8_number_13 : decode cX8_number 13 = .ok (.invokestatic 55, 3) := by decide +kernel
theorem dX8_number_16 : decode cX8_number 16 = .ok (.ifCond .eq 32, 3) := by decide +kernel
theorem dX8_number_23 : decode cX8_number 23 = .ok (.aload_n 0, 1) := by decide +kernel
theorem dX8_number_22 : decode cX8_number 22 = .ok (.imul, 1) := by decide +kernel
theorem dX8_number_21 : decode cX8_number 21 = .ok (.iload_n 1, 1) := by decide +kernel
theorem dX8_number_19 : decode cX8_number 19 = .ok (.bipush 10, 2) := by decide +kernel
theorem dX8_number_24 : decode cX8_number 24 = .ok (.invokevirtual 45, 3) := by decide +kernel
theorem dX8_number_33 : decode cX8_number 33 = .ok (.dup, 1) := by decide +kernel
theorem dX8_number_32 : decode cX8_number 32 = .ok (.aload_n 0, 1) := by decide +kernel
theorem dX8_number_31 : decode cX8_number 31 = .ok (.istore_n 1, 1) := by decide +kernel
theorem dX8_number_30 : decode cX8_number 30 = .ok (.isub, 1) := by decide +kernel
theorem dX8_number_28 : decode cX8_number 28 = .ok (.bipush 48, 2) := by decide +kernel
theorem dX8_number_27 : decode cX8_number 27 = .ok (.iadd, 1) := by decide +kernel
theorem dX8_number_34 : decode cX8_number 34 = .ok (.getfield 24, 3) := by decide +kernel
theorem dX8_number_38 : decode cX8_number 38 = .ok (.iadd, 1) := by decide +kernel
theorem dX8_number_37 : decode cX8_number 37 = .ok (.iconst 1, 1) := by decide +kernel
theorem dX8_number_39 : decode cX8_number 39 = .ok (.putfield 24, 3) := by decide +kernel
theorem dX8_number_45 : decode cX8_number 45 = .ok (.goto (-41), 3) := by decide +kernel
theorem dX8_number_42 : decode cX8_number 42 = .ok (.iinc 2 1, 3) := by decide +kernel
theorem dX8_next_0 : decode cX8_next 0 = .ok (.aload_n 0, 1) := by decide +kernel
theorem dX8_next_1 : decode cX8_next 1 = .ok (.getfield 27, 3) := by decide +kernel
theorem dX8_next_4 : decode cX8_next 4 = .ok (.aload_n 0, 1) := by decide +kernel
theorem dX8_next_5 : decode cX8_next 5 = .ok (.getfield 24, 3) := by decide +kernel
theorem dX8_next_8 : decode cX8_next 8 = .ok (.invokevirtual 72, 3) := by decide +kernel
theorem dX8_next_11 : decode cX8_next 11 = .ok (.ifCond .eq 18, 3) := by decide +kernel
theorem dX8_next_29 : decode cX8_next 29 = .ok (.iconst (-1), 1) := by decide +kernel
theorem dX8_next_30 : decode cX8_next 30 = .ok (.ireturn, 1) := by decide +kernel
theorem dX8_next_14 : decode cX8_next 14 = .ok (.aload_n 0, 1) := by decide +kernel
theorem dX8_next_15 : decode cX8_next 15 = .ok (.getfield 27, 3) := by decide +kernel
theorem dX8_next_18 : decode cX8_next 18 = .ok (.aload_n 0, 1) := by decide +kernel
theorem dX8_next_19 : decode cX8_next 19 = .ok (.getfield 24, 3) := by decide +kernel
theorem dX8_next_22 : decode cX8_next 22 = .ok (.iconst 0, 1) := by decide +kernel
theorem dX8_next_23 : decode cX8_next 23 = .ok (.invokevirtual 75, 3) := by decide +kernel
theorem dX8_next_26 : decode cX8_next 26 = .ok (.goto 4, 3) := by decide +kernel
theorem dX8_isDigit_3 : decode cX8_isDigit 3 = .ok (.bipush 57, 2) := by decide +kernel
theorem dX8_isDigit_1 : decode cX8_isDigit 1 = .ok (.bipush 48, 2) := by decide +kernel
theorem dX8_isDigit_0 : decode cX8_isDigit 0 = .ok (.iload_n 0, 1) := by decide +kernel
theorem dX8_isDigit_5 : decode cX8_isDigit 5 = .ok (.invokestatic 79, 3) := by decide +kernel
theorem dX8_isDigit_8 : decode cX8_isDigit 8 = .ok (.ireturn, 1) := by decide +kernel
theorem dX8_nameOf_1 : decode cX8_nameOf 1 = .ok (.ifCond .ge 5, 3) := by decide +kernel
theorem dX8_nameOf_0 : decode cX8_nameOf 0 = .ok (.iload_n 1, 1) := by decide +kernel
theorem dX8_nameOf_6 : decode cX8_nameOf 6 = .ok (.aload_n 0, 1) := by decide +kernel
theorem dX8_nameOf_7 : decode cX8_nameOf 7 = .ok (.getfield 21, 3) := by decide +kernel
theorem dX8_nameOf_10 : decode cX8_nameOf 10 = .ok (.ifCond .ne 8, 3) := by decide +kernel
theorem dX8_nameOf_13 : decode cX8_nameOf 13 = .ok (.ldc 83, 2) := by decide +kernel
theorem dX8_nameOf_15 : decode cX8_nameOf 15 = .ok (.goto 18, 3) := by decide +kernel
theorem dX8_nameOf_36 : decode cX8_nameOf 36 = .ok (.i2c, 1) := by decide +kernel
theorem dX8_nameOf_35 : decode cX8_nameOf 35 = .ok (.iload_n 1, 1) := by decide +kernel
theorem dX8_nameOf_34 : decode cX8_nameOf 34 = .ok (.aload_n 2, 1) := by decide +kernel
theorem dX8_nameOf_33 : decode cX8_nameOf 33 = .ok (.astore_n 2, 1) := by decide +kernel
theorem dX8_nameOf_37 : decode cX8_nameOf 37 = .ok (.invokevirtual 89, 3) := by decide +kernel
theorem dX8_nameOf_18 : decode cX8_nameOf 18 = .ok (.aload_n 0, 1) := by decide +kernel
theorem dX8_nameOf_19 : decode cX8_nameOf 19 = .ok (.getfield 21, 3) := by decide +kernel
theorem dX8_nameOf_23 : decode cX8_nameOf 23 = .ok (.if_icmp .ne 8, 3) := by decide +kernel
theorem dX8_nameOf_22 : decode cX8_nameOf 22 = .ok (.iconst 1, 1) := by decide +kernel
theorem dX8_nameOf_26 : decode cX8_nameOf 26 = .ok (.ldc 85, 2) := by decide +kernel
theorem dX8_nameOf_28 : decode cX8_nameOf 28 = .ok (.goto 5, 3) := by decide +kernel
theorem dX8_nameOf_31 : decode cX8_nameOf 31 = .ok (.ldc 87, 2) := by decide +kernel
theorem dX8_nameOf_4 : decode cX8_nameOf 4 = .ok (.iconst (-1), 1) := by decide +kernel
theorem dX8_nameOf_5 : decode cX8_nameOf 5 = .ok (.ireturn, 1) := by decide +kernel
theorem dX8_nameOf_40 : decode cX8_nameOf 40 = .ok (.ireturn, 1) := by decide +kernel
theorem dX8_emit_0 : decode cX8_emit 0 = .ok (.aload_n 0, 1) := by decide +kernel
theorem dX8_emit_1 : decode cX8_emit 1 = .ok (.getfield 17, 3) := by decide +kernel
theorem dX8_emit_4 : decode cX8_emit 4 = .ok (.ifCond .lt 35, 3) := by decide +kernel
theorem dX8_emit_39 : decode cX8_emit 39 = .ok (.return_, 1) := by decide +kernel
theorem dX8_emit_7 : decode cX8_emit 7 = .ok (.aload_n 0, 1) := by decide +kernel
theorem dX8_emit_8 : decode cX8_emit 8 = .ok (.getfield 17, 3) := by decide +kernel
theorem dX8_emit_11 : decode cX8_emit 11 = .ok (.aload_n 0, 1) := by decide +kernel
theorem dX8_emit_12 : decode cX8_emit 12 = .ok (.getfield 11, 3) := by decide +kernel
theorem dX8_emit_15 : decode cX8_emit 15 = .ok (.arraylength, 1) := by decide +kernel
theorem dX8_emit_16 : decode cX8_emit 16 = .ok (.if_icmp .ge 23, 3) := by decide +kernel
theorem dX8_emit_19 : decode cX8_emit 19 = .ok (.aload_n 0, 1) := by decide +kernel
theorem dX8_emit_20 : decode cX8_emit 20 = .ok (.getfield 11, 3) := by decide +kernel
theorem dX8_emit_23 : decode cX8_emit 23 = .ok (.aload_n 0, 1) := by decide +kernel
theorem dX8_emit_24 : decode cX8_emit 24 = .ok (.getfield 17, 3) := by decide +kernel
theorem dX8_emit_27 : decode cX8_emit 27 = .ok (.iload_n 1, 1) := by decide +kernel
theorem dX8_emit_28 : decode cX8_emit 28 = .ok (.iastore, 1) := by decide +kernel
theorem dX8_emit_30 : decode cX8_emit 30 = .ok (.dup, 1) := by decide +kernel
theorem dX8_emit_29 : decode cX8_emit 29 = .ok (.aload_n 0, 1) := by decide +kernel
theorem dX8_emit_31 : decode cX8_emit 31 = .ok (.getfield 17, 3) := by decide +kernel
theorem dX8_emit_35 : decode cX8_emit 35 = .ok (.iadd, 1) := by decide +kernel
theorem dX8_emit_34 : decode cX8_emit 34 = .ok (.iconst 1, 1) := by decide +kernel
theorem dX8_emit_36 : decode cX8_emit 36 = .ok (.putfield 17, 3) := by decide +kernel
theorem dX9_begin_0 : decode cX9_begin 0 = .ok (.aload_n 0, 1) := by decide +kernel
theorem dX9_begin_1 : decode cX9_begin 1 = .ok (.getfield 14, 3) := by decide +kernel
theorem dX9_begin_4 : decode cX9_begin 4 = .ok (.invokevirtual 30, 3) := by decide +kernel
theorem dX9_begin_8 : decode cX9_begin 8 = .ok (.iload_n 1, 1) := by decide +kernel
theorem dX9_begin_7 : decode cX9_begin 7 = .ok (.aload_n 0, 1) := by decide +kernel
theorem dX9_begin_9 : decode cX9_begin 9 = .ok (.putfield 20, 3) := by decide +kernel
theorem dX9_begin_13 : decode cX9_begin 13 = .ok (.iload_n 2, 1) := by decide +kernel
theorem dX9_begin_12 : decode cX9_begin 12 = .ok (.aload_n 0, 1) := by decide +kernel
theorem dX9_begin_14 : decode cX9_begin 14 = .ok (.putfield 24, 3) := by decide +kernel
theorem dX9_begin_18 : decode cX9_begin 18 = .ok (.iload_n 3, 1) := by decide +kernel
theorem dX9_begin_17 : decode cX9_begin 17 = .ok (.aload_n 0, 1) := by decide +kernel
theorem dX9_begin_19 : decode cX9_begin 19 = .ok (.putfield 27, 3) := by decide +kernel
theorem dX9_begin_22 : decode cX9_begin 22 = .ok (.return_, 1) := by decide +kernel
theorem dX9_utter_3 : decode cX9_utter 3 = .ok (.iconst 0, 1) := by decide +kernel
theorem dX9_utter_2 : decode cX9_utter 2 = .ok (.iload_n 2, 1) := by decide +kernel
theorem dX9_utter_1 : decode cX9_utter 1 = .ok (.iload_n 1, 1) := by decide +kernel
theorem dX9_utter_0 : decode cX9_utter 0 = .ok (.aload_n 0, 1) := by decide +kernel
theorem dX9_utter_4 : decode cX9_utter 4 = .ok (.invokevirtual 33, 3) := by decide +kernel
theorem dX9_utter_7 : decode cX9_utter 7 = .ok (.ireturn, 1) := by decide +kernel
theorem dX9_own_1 : decode cX9_own 1 = .ok (.aload_n 0, 1) := by decide +kernel
theorem dX9_own_0 : decode cX9_own 0 = .ok (.aload_n 0, 1) := by decide +kernel
theorem dX9_own_2 : decode cX9_own 2 = .ok (.getfield 20, 3) := by decide +kernel
theorem dX9_own_9 : decode cX9_own 9 = .ok (.iadd, 1) := by decide +kernel
theorem dX9_own_8 : decode cX9_own 8 = .ok (.iconst 1, 1) := by decide +kernel
theorem dX9_own_7 : decode cX9_own 7 = .ok (.iload_n 3, 1) := by decide +kernel
theorem dX9_own_6 : decode cX9_own 6 = .ok (.iload_n 2, 1) := by decide +kernel
theorem dX9_own_5 : decode cX9_own 5 = .ok (.iload_n 1, 1) := by decide +kernel
theorem dX9_own_10 : decode cX9_own 10 = .ok (.invokevirtual 37, 3) := by decide +kernel
theorem dX9_own_13 : decode cX9_own 13 = .ok (.ireturn, 1) := by decide +kernel
theorem dX9_from_1 : decode cX9_from 1 = .ok (.iload_n 2, 1) := by decide +kernel
theorem dX9_from_0 : decode cX9_from 0 = .ok (.iload_n 1, 1) := by decide +kernel
theorem dX9_from_2 : decode cX9_from 2 = .ok (.invokestatic 41, 3) := by decide +kernel
theorem dX9_from_11 : decode cX9_from 11 = .ok (.if_icmp .gt 8, 3) := by decide +kernel
theorem dX9_from_9 : decode cX9_from 9 = .ok (.bipush 40, 2) := by decide +kernel
theorem dX9_from_7 : decode cX9_from 7 = .ok (.iload 4, 2) := by decide +kernel
theorem dX9_from_5 : decode cX9_from 5 = .ok (.istore 5, 2) := by decide +kernel
theorem dX9_from_19 : decode cX9_from 19 = .ok (.iconst 0, 1) := by decide +kernel
theorem dX9_from_20 : decode cX9_from 20 = .ok (.ireturn, 1) := by decide +kernel
theorem dX9_from_16 : decode cX9_from 16 = .ok (.ifCond .ne 5, 3) := by decide +kernel
theorem dX9_from_14 : decode cX9_from 14 = .ok (.iload 5, 2) := by decide +kernel
theorem dX9_from_21 : decode cX9_from 21 = .ok (.aload_n 0, 1) := by decide +kernel
theorem dX9_from_22 : decode cX9_from 22 = .ok (.getfield 14, 3) := by decide +kernel
theorem dX9_from_25 : decode cX9_from 25 = .ok (.iload 5, 2) := by decide +kernel
theorem dX9_from_27 : decode cX9_from 27 = .ok (.invokevirtual 45, 3) := by decide +kernel
theorem dX9_from_35 : decode cX9_from 35 = .ok (.if_icmp .ge 15, 3) := by decide +kernel
theorem dX9_from_33 : decode cX9_from 33 = .ok (.bipush 40, 2) := by decide +kernel
theorem dX9_from_31 : decode cX9_from 31 = .ok (.iload 5, 2) := by decide +kernel
theorem dX9_from_30 : decode cX9_from 30 = .ok (.pop, 1) := by decide +kernel
theorem dX9_from_54 : decode cX9_from 54 = .ok (.iload 4, 2) := by decide +kernel
theorem dX9_from_53 : decode cX9_from 53 = .ok (.iload_n 3, 1) := by decide +kernel
theorem dX9_from_51 : decode cX9_from 51 = .ok (.iload 5, 2) := by decide +kernel
theorem dX9_from_50 : decode cX9_from 50 = .ok (.aload_n 0, 1) := by decide +kernel
theorem dX9_from_56 : decode cX9_from 56 = .ok (.invokevirtual 52, 3) := by decide +kernel
theorem dX9_from_42 : decode cX9_from 42 = .ok (.iload 4, 2) := by decide +kernel
theorem dX9_from_41 : decode cX9_from 41 = .ok (.iload_n 3, 1) := by decide +kernel
theorem dX9_from_39 : decode cX9_from 39 = .ok (.iload 5, 2) := by decide +kernel
theorem dX9_from_38 : decode cX9_from 38 = .ok (.aload_n 0, 1) := by decide +kernel
theorem dX9_from_44 : decode cX9_from 44 = .ok (.invokevirtual 49, 3) := by decide +kernel
theorem dX9_from_59 : decode cX9_from 59 = .ok (.ireturn, 1) := by decide +kernel
theorem dX9_from_47 : decode cX9_from 47 = .ok (.goto 12, 3) := by decide +kernel
theorem dX9_bodyFrom_3 : decode cX9_bodyFrom 3 = .ok (.istore_n 3, 1) := by decide +kernel
theorem dX9_bodyFrom_2 : decode cX9_bodyFrom 2 = .ok (.iconst 0, 1) := by decide +kernel
theorem dX9_bodyFrom_1 : decode cX9_bodyFrom 1 = .ok (.istore_n 2, 1) := by decide +kernel
theorem dX9_bodyFrom_0 : decode cX9_bodyFrom 0 = .ok (.iload_n 0, 1) := by decide +kernel
theorem dX9_bodyFrom_4 : decode cX9_bodyFrom 4 = .ok (.iload_n 3, 1) := by decide +kernel
theorem dX9_bodyFrom_5 : decode cX9_bodyFrom 5 = .ok (.getstatic 55, 3) := by decide +kernel
theorem dX9_bodyFrom_8 : decode cX9_bodyFrom 8 = .ok (.arraylength, 1) := by decide +kernel
theorem dX9_bodyFrom_9 : decode cX9_bodyFrom 9 = .ok (.if_icmp .ge 55, 3) := by decide +kernel
theorem dX9_bodyFrom_64 : decode cX9_bodyFrom 64 = .ok (.iconst 0, 1) := by decide +kernel
theorem dX9_bodyFrom_65 : decode cX9_bodyFrom 65 = .ok (.ireturn, 1) := by decide +kernel
theorem dX9_bodyFrom_13 : decode cX9_bodyFrom 13 = .ok (.ifCond .lt 51, 3) := by decide +kernel
theorem dX9_bodyFrom_12 : decode cX9_bodyFrom 12 = .ok (.iload_n 2, 1) := by decide +kernel
theorem dX9_bodyFrom_25 : decode cX9_bodyFrom 25 = .ok (.ifCond .lt 28, 3) := by decide +kernel
theorem dX9_bodyFrom_23 : decode cX9_bodyFrom 23 = .ok (.iload 4, 2) := by decide +kernel
theorem dX9_bodyFrom_21 : decode cX9_bodyFrom 21 = .ok (.istore 4, 2) := by decide +kernel
theorem dX9_bodyFrom_20 : decode cX9_bodyFrom 20 = .ok (.iadd, 1) := by decide +kernel
theorem dX9_bodyFrom_19 : decode cX9_bodyFrom 19 = .ok (.iload_n 1, 1) := by decide +kernel
theorem dX9_bodyFrom_18 : decode cX9_bodyFrom 18 = .ok (.imul, 1) := by decide +kernel
theorem dX9_bodyFrom_17 : decode cX9_bodyFrom 17 = .ok (.iload_n 2, 1) := by decide +kernel
theorem dX9_bodyFrom_16 : decode cX9_bodyFrom 16 = .ok (.iconst 4, 1) := by decide +kernel
theorem dX9_bodyFrom_53 : decode cX9_bodyFrom 53 = .ok (.iload_n 2, 1) := by decide +kernel
theorem dX9_bodyFrom_54 : decode cX9_bodyFrom 54 = .ok (.invokestatic 59, 3) := by decide +kernel
theorem dX9_bodyFrom_28 : decode cX9_bodyFrom 28 = .ok (.iload 4, 2) := by decide +kernel
theorem dX9_bodyFrom_30 : decode cX9_bodyFrom 30 = .ok (.getstatic 55, 3) := by decide +kernel
theorem dX9_bodyFrom_33 : decode cX9_bodyFrom 33 = .ok (.arraylength, 1) := by decide +kernel
theorem dX9_bodyFrom_34 : decode cX9_bodyFrom 34 = .ok (.if_icmp .ge 19, 3) := by decide +kernel
theorem dX9_bodyFrom_37 : decode cX9_bodyFrom 37 = .ok (.getstatic 55, 3) := by decide +kernel
theorem dX9_bodyFrom_40 : decode cX9_bodyFrom 40 = .ok (.iload 4, 2) := by decide +kernel
theorem dX9_bodyFrom_42 : decode cX9_bodyFrom 42 = .ok (.iaload, 1) := by decide +kernel
theorem dX9_bodyFrom_43 : decode cX9_bodyFrom 43 = .ok (.ifCond .eq 10, 3) := by decide +kernel
theorem dX9_bodyFrom_46 : decode cX9_bodyFrom 46 = .ok (.getstatic 55, 3) := by decide +kernel
theorem dX9_bodyFrom_49 : decode cX9_bodyFrom 49 = .ok (.iload 4, 2) := by decide +kernel
theorem dX9_bodyFrom_51 : decode cX9_bodyFrom 51 = .ok (.iaload, 1) := by decide +kernel
theorem dX9_bodyFrom_52 : decode cX9_bodyFrom 52 = .ok (.ireturn, 1) := by decide +kernel
theorem dX9_bodyFrom_61 : decode cX9_bodyFrom 61 = .ok (.goto (-57), 3) := by decide +kernel
theorem dX9_bodyFrom_58 : decode cX9_bodyFrom 58 = .ok (.iinc 3 1, 3) := by decide +kernel
theorem dX9_bodyFrom_57 : decode cX9_bodyFrom 57 = .ok (.istore_n 2, 1) := by decide +kernel
theorem dX9_enemyBody_0 : decode cX9_enemyBody 0 = .ok (.iload_n 1, 1) := by decide +kernel
theorem dX9_enemyBody_1 : decode cX9_enemyBody 1 = .ok (.tableswitch 190 10 30 #[99, 106, 116, 129, 190, 190, 190, 190, 190, 190, 145, 161, 190, 190, 190, 190, 190, 190, 190, 190, 174], 99) := by decide +kernel
theorem dX9_enemyBody_101 : decode cX9_enemyBody 101 = .ok (.aload_n 0, 1) := by decide +kernel
theorem dX9_enemyBody_100 : decode cX9_enemyBody 100 = .ok (.iload_n 2, 1) := by decide +kernel
theorem dX9_enemyBody_102 : decode cX9_enemyBody 102 = .ok (.getfield 24, 3) := by decide +kernel
theorem dX9_enemyBody_105 : decode cX9_enemyBody 105 = .ok (.iadd, 1) := by decide +kernel
theorem dX9_enemyBody_106 : decode cX9_enemyBody 106 = .ok (.ireturn, 1) := by decide +kernel
theorem dX9_enemyBody_110 : decode cX9_enemyBody 110 = .ok (.iload_n 3, 1) := by decide +kernel
theorem dX9_enemyBody_109 : decode cX9_enemyBody 109 = .ok (.iload_n 2, 1) := by decide +kernel
theorem dX9_enemyBody_108 : decode cX9_enemyBody 108 = .ok (.iconst 0, 1) := by decide +kernel
theorem dX9_enemyBody_107 : decode cX9_enemyBody 107 = .ok (.aload_n 0, 1) := by decide +kernel
theorem dX9_enemyBody_111 : decode cX9_enemyBody 111 = .ok (.invokevirtual 33, 3) := by decide +kernel
theorem dX9_enemyBody_120 : decode cX9_enemyBody 120 = .ok (.iload_n 3, 1) := by decide +kernel
theorem dX9_enemyBody_119 : decode cX9_enemyBody 119 = .ok (.iload_n 2, 1) := by decide +kernel
theorem dX9_enemyBody_118 : decode cX9_enemyBody 118 = .ok (.iconst 1, 1) := by decide +kernel
theorem dX9_enemyBody_117 : decode cX9_enemyBody 117 = .ok (.aload_n 0, 1) := by decide +kernel
theorem dX9_enemyBody_121 : decode cX9_enemyBody 121 = .ok (.invokevirtual 33, 3) := by decide +kernel
theorem dX9_enemyBody_133 : decode cX9_enemyBody 133 = .ok (.iload_n 3, 1) := by decide +kernel
theorem dX9_enemyBody_132 : decode cX9_enemyBody 132 = .ok (.iload_n 2, 1) := by decide +kernel
theorem dX9_enemyBody_131 : decode cX9_enemyBody 131 = .ok (.iconst 2, 1) := by decide +kernel
theorem dX9_enemyBody_130 : decode cX9_enemyBody 130 = .ok (.aload_n 0, 1) := by decide +kernel
theorem dX9_enemyBody_134 : decode cX9_enemyBody 134 = .ok (.invokevirtual 33, 3) := by decide +kernel
theorem dX9_enemyBody_199 : decode cX9_enemyBody 199 = .ok (.iadd, 1) := by decide +kernel
theorem dX9_enemyBody_198 : decode cX9_enemyBody 198 = .ok (.iconst 1, 1) := by decide +kernel
theorem dX9_enemyBody_197 : decode cX9_enemyBody 197 = .ok (.iload_n 3, 1) := by decide +kernel
theorem dX9_enemyBody_196 : decode cX9_enemyBody 196 = .ok (.iadd, 1) := by decide +kernel
theorem dX9_enemyBody_195 : decode cX9_enemyBody 195 = .ok (.iconst 1, 1) := by decide +kernel
theorem dX9_enemyBody_194 : decode cX9_enemyBody 194 = .ok (.iload_n 2, 1) := by decide +kernel
theorem dX9_enemyBody_193 : decode cX9_enemyBody 193 = .ok (.iconst 2, 1) := by decide +kernel
theorem dX9_enemyBody_192 : decode cX9_enemyBody 192 = .ok (.iconst 1, 1) := by decide +kernel
theorem dX9_enemyBody_191 : decode cX9_enemyBody 191 = .ok (.aload_n 0, 1) := by decide +kernel
theorem dX9_enemyBody_200 : decode cX9_enemyBody 200 = .ok (.invokevirtual 37, 3) := by decide +kernel
theorem dX9_enemyBody_152 : decode cX9_enemyBody 152 = .ok (.iadd, 1) := by decide +kernel
theorem dX9_enemyBody_151 : decode cX9_enemyBody 151 = .ok (.iconst 1, 1) := by decide +kernel
theorem dX9_enemyBody_150 : decode cX9_enemyBody 150 = .ok (.iload_n 3, 1) := by decide +kernel
theorem dX9_enemyBody_149 : decode cX9_enemyBody 149 = .ok (.iload_n 2, 1) := by decide +kernel
theorem dX9_enemyBody_148 : decode cX9_enemyBody 148 = .ok (.iconst 1, 1) := by decide +kernel
theorem dX9_enemyBody_147 : decode cX9_enemyBody 147 = .ok (.iconst 0, 1) := by decide +kernel
theorem dX9_enemyBody_146 : decode cX9_enemyBody 146 = .ok (.aload_n 0, 1) := by decide +kernel
theorem dX9_enemyBody_153 : decode cX9_enemyBody 153 = .ok (.invokevirtual 37, 3) := by decide +kernel
theorem dX9_enemyBody_169 : decode cX9_enemyBody 169 = .ok (.iadd, 1) := by decide +kernel
theorem dX9_enemyBody_168 : decode cX9_enemyBody 168 = .ok (.iconst 1, 1) := by decide +kernel
theorem dX9_enemyBody_167 : decode cX9_enemyBody 167 = .ok (.iload_n 3, 1) := by decide +kernel
theorem dX9_enemyBody_166 : decode cX9_enemyBody 166 = .ok (.iload_n 2, 1) := by decide +kernel
theorem dX9_enemyBody_165 : decode cX9_enemyBody 165 = .ok (.iconst 3, 1) := by decide +kernel
theorem dX9_enemyBody_164 : decode cX9_enemyBody 164 = .ok (.iconst 0, 1) := by decide +kernel
theorem dX9_enemyBody_163 : decode cX9_enemyBody 163 = .ok (.aload_n 0, 1) := by decide +kernel
theorem dX9_enemyBody_162 : decode cX9_enemyBody 162 = .ok (.iconst 0, 1) := by decide +kernel
theorem dX9_enemyBody_170 : decode cX9_enemyBody 170 = .ok (.invokevirtual 37, 3) := by decide +kernel
theorem dX9_enemyBody_181 : decode cX9_enemyBody 181 = .ok (.iadd, 1) := by decide +kernel
theorem dX9_enemyBody_180 : decode cX9_enemyBody 180 = .ok (.iconst 1, 1) := by decide +kernel
theorem dX9_enemyBody_179 : decode cX9_enemyBody 179 = .ok (.iload_n 3, 1) := by decide +kernel
theorem dX9_enemyBody_178 : decode cX9_enemyBody 178 = .ok (.iload_n 2, 1) := by decide +kernel
theorem dX9_enemyBody_177 : decode cX9_enemyBody 177 = .ok (.iconst 0, 1) := by decide +kernel
theorem dX9_enemyBody_176 : decode cX9_enemyBody 176 = .ok (.iconst 1, 1) := by decide +kernel
theorem dX9_enemyBody_175 : decode cX9_enemyBody 175 = .ok (.aload_n 0, 1) := by decide +kernel
theorem dX9_enemyBody_182 : decode cX9_enemyBody 182 = .ok (.invokevirtual 37, 3) := by decide +kernel
theorem dX9_enemyBody_115 : decode cX9_enemyBody 115 = .ok (.imul, 1) := by decide +kernel
theorem dX9_enemyBody_114 : decode cX9_enemyBody 114 = .ok (.iconst 2, 1) := by decide +kernel
theorem dX9_enemyBody_116 : decode cX9_enemyBody 116 = .ok (.ireturn, 1) := by decide +kernel
theorem dX9_enemyBody_124 : decode cX9_enemyBody 124 = .ok (.aload_n 0, 1) := by decide +kernel
theorem dX9_enemyBody_125 : decode cX9_enemyBody 125 = .ok (.getfield 27, 3) := by decide +kernel
theorem dX9_enemyBody_128 : decode cX9_enemyBody 128 = .ok (.isub, 1) := by decide +kernel
theorem dX9_enemyBody_129 : decode cX9_enemyBody 129 = .ok (.ireturn, 1) := by decide +kernel
theorem dX9_enemyBody_140 : decode cX9_enemyBody 140 = .ok (.iload_n 3, 1) := by decide +kernel
theorem dX9_enemyBody_139 : decode cX9_enemyBody 139 = .ok (.iconst 1, 1) := by decide +kernel
theorem dX9_enemyBody_138 : decode cX9_enemyBody 138 = .ok (.iconst 0, 1) := by decide +kernel
theorem dX9_enemyBody_137 : decode cX9_enemyBody 137 = .ok (.aload_n 0, 1) := by decide +kernel
theorem dX9_enemyBody_141 : decode cX9_enemyBody 141 = .ok (.invokevirtual 33, 3) := by decide +kernel
theorem dX9_enemyBody_203 : decode cX9_enemyBody 203 = .ok (.ireturn, 1) := by decide +kernel
theorem dX9_enemyBody_156 : decode cX9_enemyBody 156 = .ok (.aload_n 0, 1) := by decide +kernel
theorem dX9_enemyBody_157 : decode cX9_enemyBody 157 = .ok (.getfield 27, 3) := by decide +kernel
theorem dX9_enemyBody_160 : decode cX9_enemyBody 160 = .ok (.iadd, 1) := by decide +kernel
theorem dX9_enemyBody_161 : decode cX9_enemyBody 161 = .ok (.ireturn, 1) := by decide +kernel
theorem dX9_enemyBody_173 : decode cX9_enemyBody 173 = .ok (.isub, 1) := by decide +kernel
theorem dX9_enemyBody_174 : decode cX9_enemyBody 174 = .ok (.ireturn, 1) := by decide +kernel
theorem dX9_enemyBody_185 : decode cX9_enemyBody 185 = .ok (.aload_n 0, 1) := by decide +kernel
theorem dX9_enemyBody_186 : decode cX9_enemyBody 186 = .ok (.getfield 27, 3) := by decide +kernel
theorem dX9_enemyBody_189 : decode cX9_enemyBody 189 = .ok (.imul, 1) := by decide +kernel
theorem dX9_enemyBody_190 : decode cX9_enemyBody 190 = .ok (.ireturn, 1) := by decide +kernel
theorem dX9_enemyBody_144 : decode cX9_enemyBody 144 = .ok (.iadd, 1) := by decide +kernel
theorem dX9_enemyBody_145 : decode cX9_enemyBody 145 = .ok (.ireturn, 1) := by decide +kernel
theorem dX9_friendBody_0 : decode cX9_friendBody 0 = .ok (.iload_n 1, 1) := by decide +kernel
theorem dX9_friendBody_1 : decode cX9_friendBody 1 = .ok (.lookupswitch 119 #[(40, 43), (50, 62), (51, 75), (60, 97)], 43) := by decide +kernel
theorem dX9_friendBody_47 : decode cX9_friendBody 47 = .ok (.iload_n 3, 1) := by decide +kernel
theorem dX9_friendBody_46 : decode cX9_friendBody 46 = .ok (.iload_n 2, 1) := by decide +kernel
theorem dX9_friendBody_45 : decode cX9_friendBody 45 = .ok (.iconst 0, 1) := by decide +kernel
theorem dX9_friendBody_44 : decode cX9_friendBody 44 = .ok (.aload_n 0, 1) := by decide +kernel
theorem dX9_friendBody_48 : decode cX9_friendBody 48 = .ok (.invokevirtual 33, 3) := by decide +kernel
theorem dX9_friendBody_71 : decode cX9_friendBody 71 = .ok (.iadd, 1) := by decide +kernel
theorem dX9_friendBody_70 : decode cX9_friendBody 70 = .ok (.iconst 1, 1) := by decide +kernel
theorem dX9_friendBody_69 : decode cX9_friendBody 69 = .ok (.iload_n 3, 1) := by decide +kernel
theorem dX9_friendBody_68 : decode cX9_friendBody 68 = .ok (.isub, 1) := by decide +kernel
theorem dX9_friendBody_67 : decode cX9_friendBody 67 = .ok (.iconst 1, 1) := by decide +kernel
theorem dX9_friendBody_66 : decode cX9_friendBody 66 = .ok (.iload_n 2, 1) := by decide +kernel
theorem dX9_friendBody_65 : decode cX9_friendBody 65 = .ok (.iconst 0, 1) := by decide +kernel
theorem dX9_friendBody_64 : decode cX9_friendBody 64 = .ok (.iconst 3, 1) := by decide +kernel
theorem dX9_friendBody_63 : decode cX9_friendBody 63 = .ok (.aload_n 0, 1) := by decide +kernel
theorem dX9_friendBody_72 : decode cX9_friendBody 72 = .ok (.invokevirtual 37, 3) := by decide +kernel
theorem dX9_friendBody_82 : decode cX9_friendBody 82 = .ok (.iadd, 1) := by decide +kernel
theorem dX9_friendBody_81 : decode cX9_friendBody 81 = .ok (.iconst 1, 1) := by decide +kernel
theorem dX9_friendBody_80 : decode cX9_friendBody 80 = .ok (.iload_n 3, 1) := by decide +kernel
theorem dX9_friendBody_79 : decode cX9_friendBody 79 = .ok (.iload_n 2, 1) := by decide +kernel
theorem dX9_friendBody_78 : decode cX9_friendBody 78 = .ok (.iconst 3, 1) := by decide +kernel
theorem dX9_friendBody_77 : decode cX9_friendBody 77 = .ok (.iconst 3, 1) := by decide +kernel
theorem dX9_friendBody_76 : decode cX9_friendBody 76 = .ok (.aload_n 0, 1) := by decide +kernel
theorem dX9_friendBody_83 : decode cX9_friendBody 83 = .ok (.invokevirtual 37, 3) := by decide +kernel
theorem dX9_friendBody_104 : decode cX9_friendBody 104 = .ok (.iadd, 1) := by decide +kernel
theorem dX9_friendBody_103 : decode cX9_friendBody 103 = .ok (.iconst 1, 1) := by decide +kernel
theorem dX9_friendBody_102 : decode cX9_friendBody 102 = .ok (.iload_n 3, 1) := by decide +kernel
theorem dX9_friendBody_101 : decode cX9_friendBody 101 = .ok (.iload_n 2, 1) := by decide +kernel
theorem dX9_friendBody_100 : decode cX9_friendBody 100 = .ok (.iconst 1, 1) := by decide +kernel
theorem dX9_friendBody_99 : decode cX9_friendBody 99 = .ok (.iconst 4, 1) := by decide +kernel
theorem dX9_friendBody_98 : decode cX9_friendBody 98 = .ok (.aload_n 0, 1) := by decide +kernel
theorem dX9_friendBody_105 : decode cX9_friendBody 105 = .ok (.invokevirtual 37, 3) := by decide +kernel
theorem dX9_friendBody_126 : decode cX9_friendBody 126 = .ok (.iadd, 1) := by decide +kernel
theorem dX9_friendBody_125 : decode cX9_friendBody 125 = .ok (.iconst 1, 1) := by decide +kernel
theorem dX9_friendBody_124 : decode cX9_friendBody 124 = .ok (.iload_n 3, 1) := by decide +kernel
theorem dX9_friendBody_123 : decode cX9_friendBody 123 = .ok (.iload_n 2, 1) := by decide +kernel
theorem dX9_friendBody_122 : decode cX9_friendBody 122 = .ok (.iconst 2, 1) := by decide +kernel
theorem dX9_friendBody_121 : decode cX9_friendBody 121 = .ok (.iconst 4, 1) := by decide +kernel
theorem dX9_friendBody_120 : decode cX9_friendBody 120 = .ok (.aload_n 0, 1) := by decide +kernel
theorem dX9_friendBody_127 : decode cX9_friendBody 127 = .ok (.invokevirtual 37, 3) := by decide +kernel
theorem dX9_friendBody_57 : decode cX9_friendBody 57 = .ok (.iadd, 1) := by decide +kernel
theorem dX9_friendBody_56 : decode cX9_friendBody 56 = .ok (.iconst 1, 1) := by decide +kernel
theorem dX9_friendBody_55 : decode cX9_friendBody 55 = .ok (.iload_n 3, 1) := by decide +kernel
theorem dX9_friendBody_54 : decode cX9_friendBody 54 = .ok (.iload_n 2, 1) := by decide +kernel
theorem dX9_friendBody_53 : decode cX9_friendBody 53 = .ok (.iconst 2, 1) := by decide +kernel
theorem dX9_friendBody_52 : decode cX9_friendBody 52 = .ok (.iconst 0, 1) := by decide +kernel
theorem dX9_friendBody_51 : decode cX9_friendBody 51 = .ok (.aload_n 0, 1) := by decide +kernel
theorem dX9_friendBody_58 : decode cX9_friendBody 58 = .ok (.invokevirtual 37, 3) := by decide +kernel
theorem dX9_friendBody_75 : decode cX9_friendBody 75 = .ok (.ireturn, 1) := by decide +kernel
theorem dX9_friendBody_88 : decode cX9_friendBody 88 = .ok (.aload_n 0, 1) := by decide +kernel
theorem dX9_friendBody_87 : decode cX9_friendBody 87 = .ok (.iconst 2, 1) := by decide +kernel
theorem dX9_friendBody_86 : decode cX9_friendBody 86 = .ok (.aload_n 0, 1) := by decide +kernel
theorem dX9_friendBody_89 : decode cX9_friendBody 89 = .ok (.getfield 24, 3) := by decide +kernel
theorem dX9_friendBody_92 : decode cX9_friendBody 92 = .ok (.iload_n 3, 1) := by decide +kernel
theorem dX9_friendBody_93 : decode cX9_friendBody 93 = .ok (.invokevirtual 33, 3) := by decide +kernel
theorem dX9_friendBody_114 : decode cX9_friendBody 114 = .ok (.iadd, 1) := by decide +kernel
theorem dX9_friendBody_113 : decode cX9_friendBody 113 = .ok (.iconst 1, 1) := by decide +kernel
theorem dX9_friendBody_112 : decode cX9_friendBody 112 = .ok (.iload_n 3, 1) := by decide +kernel
theorem dX9_friendBody_111 : decode cX9_friendBody 111 = .ok (.iload_n 2, 1) := by decide +kernel
theorem dX9_friendBody_110 : decode cX9_friendBody 110 = .ok (.iconst 0, 1) := by decide +kernel
theorem dX9_friendBody_109 : decode cX9_friendBody 109 = .ok (.iconst 4, 1) := by decide +kernel
theorem dX9_friendBody_108 : decode cX9_friendBody 108 = .ok (.aload_n 0, 1) := by decide +kernel
theorem dX9_friendBody_115 : decode cX9_friendBody 115 = .ok (.invokevirtual 37, 3) := by decide +kernel
theorem dX9_friendBody_131 : decode cX9_friendBody 131 = .ok (.imul, 1) := by decide +kernel
theorem dX9_friendBody_130 : decode cX9_friendBody 130 = .ok (.iconst 3, 1) := by decide +kernel
theorem dX9_friendBody_132 : decode cX9_friendBody 132 = .ok (.ireturn, 1) := by decide +kernel
theorem dX9_friendBody_61 : decode cX9_friendBody 61 = .ok (.ixor, 1) := by decide +kernel
theorem dX9_friendBody_62 : decode cX9_friendBody 62 = .ok (.ireturn, 1) := by decide +kernel
theorem dX9_friendBody_96 : decode cX9_friendBody 96 = .ok (.iadd, 1) := by decide +kernel
theorem dX9_friendBody_97 : decode cX9_friendBody 97 = .ok (.ireturn, 1) := by decide +kernel
theorem dX9_friendBody_118 : decode cX9_friendBody 118 = .ok (.isub, 1) := by decide +kernel
theorem dX9_friendBody_119 : decode cX9_friendBody 119 = .ok (.ireturn, 1) := by decide +kernel
theorem dJ6_bitCount_0f7a4_3 : decode cJ6_bitCount_0f7a4 3 = .ok (.iushr, 1) := by decide +kernel
theorem dJ6_bitCount_0f7a4_2 : decode cJ6_bitCount_0f7a4 2 = .ok (.iconst 1, 1) := by decide +kernel
theorem dJ6_bitCount_0f7a4_1 : decode cJ6_bitCount_0f7a4 1 = .ok (.iload_n 0, 1) := by decide +kernel
theorem dJ6_bitCount_0f7a4_0 : decode cJ6_bitCount_0f7a4 0 = .ok (.iload_n 0, 1) := by decide +kernel
theorem dJ6_bitCount_0f7a4_4 : decode cJ6_bitCount_0f7a4 4 = .ok (.ldc_w 265, 3) := by decide +kernel
theorem dJ6_bitCount_0f7a4_10 : decode cJ6_bitCount_0f7a4 10 = .ok (.iload_n 0, 1) := by decide +kernel
theorem dJ6_bitCount_0f7a4_9 : decode cJ6_bitCount_0f7a4 9 = .ok (.istore_n 0, 1) := by decide +kernel
theorem dJ6_bitCount_0f7a4_8 : decode cJ6_bitCount_0f7a4 8 = .ok (.isub, 1) := by decide +kernel
theorem dJ6_bitCount_0f7a4_7 : decode cJ6_bitCount_0f7a4 7 = .ok (.iand, 1) := by decide +kernel
theorem dJ6_bitCount_0f7a4_11 : decode cJ6_bitCount_0f7a4 11 = .ok (.ldc_w 266, 3) := by decide +kernel
theorem dJ6_bitCount_0f7a4_17 : decode cJ6_bitCount_0f7a4 17 = .ok (.iushr, 1) := by decide +kernel
theorem dJ6_bitCount_0f7a4_16 : decode cJ6_bitCount_0f7a4 16 = .ok (.iconst 2, 1) := by decide +kernel
theorem dJ6_bitCount_0f7a4_15 : decode cJ6_bitCount_0f7a4 15 = .ok (.iload_n 0, 1) := by decide +kernel
theorem dJ6_bitCount_0f7a4_14 : decode cJ6_bitCount_0f7a4 14 = .ok (.iand, 1) := by decide +kernel
theorem dJ6_bitCount_0f7a4_18 : decode cJ6_bitCount_0f7a4 18 = .ok (.ldc_w 266, 3) := by decide +kernel
theorem dJ6_bitCount_0f7a4_28 : decode cJ6_bitCount_0f7a4 28 = .ok (.iadd, 1) := by decide +kernel
theorem dJ6_bitCount_0f7a4_27 : decode cJ6_bitCount_0f7a4 27 = .ok (.iushr, 1) := by decide +kernel
theorem dJ6_bitCount_0f7a4_26 : decode cJ6_bitCount_0f7a4 26 = .ok (.iconst 4, 1) := by decide +kernel
theorem dJ6_bitCount_0f7a4_25 : decode cJ6_bitCount_0f7a4 25 = .ok (.iload_n 0, 1) := by decide +kernel
theorem dJ6_bitCount_0f7a4_24 : decode cJ6_bitCount_0f7a4 24 = .ok (.iload_n 0, 1) := by decide +kernel
theorem dJ6_bitCount_0f7a4_23 : decode cJ6_bitCount_0f7a4 23 = .ok (.istore_n 0, 1) := by decide +kernel
theorem dJ6_bitCount_0f7a4_22 : decode cJ6_bitCount_0f7a4 22 = .ok (.iadd, 1) := by decide +kernel
theorem dJ6_bitCount_0f7a4_21 : decode cJ6_bitCount_0f7a4 21 = .ok (.iand, 1) := by decide +kernel
theorem dJ6_bitCount_0f7a4_29 : decode cJ6_bitCount_0f7a4 29 = .ok (.ldc_w 267, 3) := by decide +kernel
theorem dJ6_bitCount_0f7a4_51 : decode cJ6_bitCount_0f7a4 51 = .ok (.iand, 1) := by decide +kernel
theorem dJ6_bitCount_0f7a4_49 : decode cJ6_bitCount_0f7a4 49 = .ok (.bipush 63, 2) := by decide +kernel
theorem dJ6_bitCount_0f7a4_48 : decode cJ6_bitCount_0f7a4 48 = .ok (.iload_n 0, 1) := by decide +kernel
theorem dJ6_bitCount_0f7a4_47 : decode cJ6_bitCount_0f7a4 47 = .ok (.istore_n 0, 1) := by decide +kernel
theorem dJ6_bitCount_0f7a4_46 : decode cJ6_bitCount_0f7a4 46 = .ok (.iadd, 1) := by decide +kernel
theorem dJ6_bitCount_0f7a4_45 : decode cJ6_bitCount_0f7a4 45 = .ok (.iushr, 1) := by decide +kernel
theorem dJ6_bitCount_0f7a4_43 : decode cJ6_bitCount_0f7a4 43 = .ok (.bipush 16, 2) := by decide +kernel
theorem dJ6_bitCount_0f7a4_42 : decode cJ6_bitCount_0f7a4 42 = .ok (.iload_n 0, 1) := by decide +kernel
theorem dJ6_bitCount_0f7a4_41 : decode cJ6_bitCount_0f7a4 41 = .ok (.iload_n 0, 1) := by decide +kernel
theorem dJ6_bitCount_0f7a4_40 : decode cJ6_bitCount_0f7a4 40 = .ok (.istore_n 0, 1) := by decide +kernel
theorem dJ6_bitCount_0f7a4_39 : decode cJ6_bitCount_0f7a4 39 = .ok (.iadd, 1) := by decide +kernel
theorem dJ6_bitCount_0f7a4_38 : decode cJ6_bitCount_0f7a4 38 = .ok (.iushr, 1) := by decide +kernel
theorem dJ6_bitCount_0f7a4_36 : decode cJ6_bitCount_0f7a4 36 = .ok (.bipush 8, 2) := by decide +kernel
theorem dJ6_bitCount_0f7a4_35 : decode cJ6_bitCount_0f7a4 35 = .ok (.iload_n 0, 1) := by decide +kernel
theorem dJ6_bitCount_0f7a4_34 : decode cJ6_bitCount_0f7a4 34 = .ok (.iload_n 0, 1) := by decide +kernel
theorem dJ6_bitCount_0f7a4_33 : decode cJ6_bitCount_0f7a4 33 = .ok (.istore_n 0, 1) := by decide +kernel
theorem dJ6_bitCount_0f7a4_32 : decode cJ6_bitCount_0f7a4 32 = .ok (.iand, 1) := by decide +kernel
theorem dJ6_bitCount_0f7a4_52 : decode cJ6_bitCount_0f7a4 52 = .ok (.ireturn, 1) := by decide +kernel
theorem B_X0_read_0 {o : q_H} (d : Nat) (x2 x3 : Int32) (g : Nat → Nat → Int32) : q_sem (d + 1) mX0_read 0 [.ref 91, .ref 69, .int x2, .int x3, .retAddr 0, .retAddr 0, .retAddr 0, .retAddr 0, .retAddr 0] [] (q_K o g) = (q_sem d mX7_clear 0 [.ref 92] [] (q_K o g)).bind (fun r => q_sem (d + 1) mX0_read 7 [.ref 91, .ref 69, .int x2, .int x3, .retAddr 0, .retAddr 0, .retAddr 0, .retAddr 0, .retAddr 0] (r.1.toList ++ []) r.2) := by
  refine (q_blk (Y := mX0_read) (q_dcC dX0_read_0 q_dcN) (show _ = some (1, [.ref 91, .ref 69, .int x2, .int x3, .retAddr 0, .retAddr 0, .retAddr 0, .retAddr 0, .retAddr 0], [.ref 91]) from rfl)).trans ?_
  refine (k_getr (Y := mX0_read) dX0_read_1 rfl rfl ⟨by decide, rfl⟩ (by decide) rfl).trans ?_
  exact K_calV (d := d) (Y := mX0_read) (Z := mX7_clear) (vs := []) (rest := []) (la := [.ref 92]) dX0_read_4 rfl rfl rfl rfl ⟨by decide, rfl⟩ (Nat.le_of_ble_eq_true rfl) rfl (Nat.le_of_ble_eq_true rfl)
theorem B_X0_read_7 {o : q_H} (d : Nat) (x2 x3 : Int32) (g : Nat → Nat → Int32) : q_sem (d + 1) mX0_read 7 [.ref 91, .ref 69, .int x2, .int x3, .retAddr 0, .retAddr 0, .retAddr 0, .retAddr 0, .retAddr 0] [] (q_K o g) = (q_sem d mX6_size 0 [.ref 69, .int x2] [] (q_K o g)).bind (fun r => q_sem (d + 1) mX0_read 12 [.ref 91, .ref 69, .int x2, .int x3, .retAddr 0, .retAddr 0, .retAddr 0, .retAddr 0, .retAddr 0] (r.1.toList ++ []) r.2) := by
  refine (q_blk (Y := mX0_read) (q_dcC dX0_read_7 (q_dcC dX0_read_8 q_dcN)) (show _ = some (9, [.ref 91, .ref 69, .int x2, .int x3, .retAddr 0, .retAddr 0, .retAddr 0, .retAddr 0, .retAddr 0], [.int x2, .ref 69]) from rfl)).trans ?_
  exact K_calV (d := d) (Y := mX0_read) (Z := mX6_size) (vs := [.int x2]) (rest := []) (la := [.ref 69, .int x2]) dX0_read_9 rfl rfl rfl rfl ⟨by decide, rfl⟩ (Nat.le_of_ble_eq_true rfl) rfl (Nat.le_of_ble_eq_true rfl)
theorem B_X0_read_12 {o : q_H} (d : Nat) (x2 x3 y0 : Int32) (g : Nat → Nat → Int32) : q_sem (d) mX0_read 12 [.ref 91, .ref 69, .int x2, .int x3, .retAddr 0, .retAddr 0, .retAddr 0, .retAddr 0, .retAddr 0] [.int y0] (q_K o g) = (if y0 = 0 then some (some (.int 0), q_K o g) else (if (y0 - y0 / 3 * 3) = 0 then (if y0 ≤ 24 then q_sem (d) mX0_read 38 [.ref 91, .ref 69, .int x2, .int x3, .int y0, .int 0, .retAddr 0, .retAddr 0, .retAddr 0] [] (q_K o g) else some (some (.int 0), q_K o g)) else some (some (.int 0), q_K o g))) := by
  refine (q_blk (Y := mX0_read) (q_dcC dX0_read_12 (q_dcC dX0_read_14 (q_dcC dX0_read_16 q_dcN))) (show _ = some ((if q_cc .eq y0 0 = true then 33 else 19), [.ref 91, .ref 69, .int x2, .int x3, .int y0, .retAddr 0, .retAddr 0, .retAddr 0, .retAddr 0], []) from rfl)).trans ?_
  by_cases c1 : y0 = 0
  · rw [if_pos (show q_cc .eq y0 0 = true from decide_eq_true c1)]
    refine Eq.trans ?_ (if_pos c1).symm
    refine (q_blk (Y := mX0_read) (q_dcC dX0_read_33 q_dcN) (show _ = some (34, [.ref 91, .ref 69, .int x2, .int x3, .int y0, .retAddr 0, .retAddr 0, .retAddr 0, .retAddr 0], [.int 0]) from rfl)).trans ?_
    exact k_iret (Y := mX0_read) dX0_read_34 rfl
  · rw [if_neg (show ¬ q_cc .eq y0 0 = true from fun z => c1 (of_decide_eq_true z))]
    refine Eq.trans ?_ (if_neg c1).symm
    refine (q_blk (Y := mX0_read) (q_dcC dX0_read_19 (q_dcC dX0_read_21 (q_dcC dX0_read_22 (q_dcC dX0_read_23 q_dcN)))) (show _ = some ((if q_cc .ne (y0 - y0 / 3 * 3) 0 = true then 33 else 26), [.ref 91, .ref 69, .int x2, .int x3, .int y0, .retAddr 0, .retAddr 0, .retAddr 0, .retAddr 0], []) from rfl)).trans ?_
    by_cases c2 : (y0 - y0 / 3 * 3) = 0
    · rw [if_neg (show ¬ q_cc .ne (y0 - y0 / 3 * 3) 0 = true from fun z => (of_decide_eq_true z : ¬ (y0 - y0 / 3 * 3) = 0) c2)]
      refine Eq.trans ?_ (if_pos c2).symm
      refine (q_blk (Y := mX0_read) (q_dcC dX0_read_26 (q_dcC dX0_read_28 (q_dcC dX0_read_30 q_dcN))) (show _ = some ((if q_cc .le y0 24 = true then 35 else 33), [.ref 91, .ref 69, .int x2, .int x3, .int y0, .retAddr 0, .retAddr 0, .retAddr 0, .retAddr 0], []) from rfl)).trans ?_
      by_cases c3 : y0 ≤ 24
      · rw [if_pos (show q_cc .le y0 24 = true from decide_eq_true c3)]
        refine Eq.trans ?_ (if_pos c3).symm
        refine (q_blk (Y := mX0_read) (q_dcC dX0_read_35 (q_dcC dX0_read_36 q_dcN)) (show _ = some (38, [.ref 91, .ref 69, .int x2, .int x3, .int y0, .int 0, .retAddr 0, .retAddr 0, .retAddr 0], []) from rfl)).trans ?_
        rfl
      · rw [if_neg (show ¬ q_cc .le y0 24 = true from fun z => c3 (of_decide_eq_true z))]
        refine Eq.trans ?_ (if_neg c3).symm
        refine (q_blk (Y := mX0_read) (q_dcC dX0_read_33 q_dcN) (show _ = some (34, [.ref 91, .ref 69, .int x2, .int x3, .int y0, .retAddr 0, .retAddr 0, .retAddr 0, .retAddr 0], [.int 0]) from rfl)).trans ?_
        exact k_iret (Y := mX0_read) dX0_read_34 rfl
    · rw [if_pos (show q_cc .ne (y0 - y0 / 3 * 3) 0 = true from decide_eq_true c2)]
      refine Eq.trans ?_ (if_neg c2).symm
      refine (q_blk (Y := mX0_read) (q_dcC dX0_read_33 q_dcN) (show _ = some (34, [.ref 91, .ref 69, .int x2, .int x3, .int y0, .retAddr 0, .retAddr 0, .retAddr 0, .retAddr 0], [.int 0]) from rfl)).trans ?_
      exact k_iret (Y := mX0_read) dX0_read_34 rfl
theorem B_X0_read_38 {o : q_H} (d : Nat) (x2 x3 x4 x5 : Int32) (g : Nat → Nat → Int32) : q_sem (d + 1) mX0_read 38 [.ref 91, .ref 69, .int x2, .int x3, .int x4, .int x5, .retAddr 0, .retAddr 0, .retAddr 0] [] (q_K o g) = (q_sem d mX6_size 0 [.ref 69, .int x3] [] (q_K o g)).bind (fun r => q_sem (d + 1) mX0_read 45 [.ref 91, .ref 69, .int x2, .int x3, .int x4, .int x5, .retAddr 0, .retAddr 0, .retAddr 0] (r.1.toList ++ [.int x5]) r.2) := by
  refine (q_blk (Y := mX0_read) (q_dcC dX0_read_38 (q_dcC dX0_read_40 (q_dcC dX0_read_41 q_dcN))) (show _ = some (42, [.ref 91, .ref 69, .int x2, .int x3, .int x4, .int x5, .retAddr 0, .retAddr 0, .retAddr 0], [.int x3, .ref 69, .int x5]) from rfl)).trans ?_
  exact K_calV (d := d) (Y := mX0_read) (Z := mX6_size) (vs := [.int x3]) (rest := [.int x5]) (la := [.ref 69, .int x3]) dX0_read_42 rfl rfl rfl rfl ⟨by decide, rfl⟩ (Nat.le_of_ble_eq_true rfl) rfl (Nat.le_of_ble_eq_true rfl)
theorem B_X0_read_45 {o : q_H} (d : Nat) (x2 x3 x4 x5 y0 y1 : Int32) (g : Nat → Nat → Int32) : q_sem (d + 1) mX0_read 45 [.ref 91, .ref 69, .int x2, .int x3, .int x4, .int x5, .retAddr 0, .retAddr 0, .retAddr 0] [.int y0, .int y1] (q_K o g) = (if y0 ≤ y1 then q_sem (d + 1) mX0_read 72 [.ref 91, .ref 69, .int x2, .int x3, .int x4, .int 0, .retAddr 0, .retAddr 0, .retAddr 0] [] (q_K o g) else (q_sem d mX6_get 0 [.ref 69, .int x3, .int x5] [] (q_K o g)).bind (fun r => q_sem (d + 1) mX0_read 55 [.ref 91, .ref 69, .int x2, .int x3, .int x4, .int x5, .retAddr 0, .retAddr 0, .retAddr 0] (r.1.toList ++ []) r.2)) := by
  refine (q_blk (Y := mX0_read) (q_dcC dX0_read_45 q_dcN) (show _ = some ((if q_cc .ge y1 y0 = true then 69 else 48), [.ref 91, .ref 69, .int x2, .int x3, .int x4, .int x5, .retAddr 0, .retAddr 0, .retAddr 0], []) from rfl)).trans ?_
  by_cases c1 : y0 ≤ y1
  · rw [if_pos (show q_cc .ge y1 y0 = true from decide_eq_true c1)]
    refine Eq.trans ?_ (if_pos c1).symm
    refine (q_blk (Y := mX0_read) (q_dcC dX0_read_69 (q_dcC dX0_read_70 q_dcN)) (show _ = some (72, [.ref 91, .ref 69, .int x2, .int x3, .int x4, .int 0, .retAddr 0, .retAddr 0, .retAddr 0], []) from rfl)).trans ?_
    rfl
  · rw [if_neg (show ¬ q_cc .ge y1 y0 = true from fun z => c1 (of_decide_eq_true z))]
    refine Eq.trans ?_ (if_neg c1).symm
    refine (q_blk (Y := mX0_read) (q_dcC dX0_read_48 (q_dcC dX0_read_49 (q_dcC dX0_read_50 q_dcN))) (show _ = some (52, [.ref 91, .ref 69, .int x2, .int x3, .int x4, .int x5, .retAddr 0, .retAddr 0, .retAddr 0], [.int x5, .int x3, .ref 69]) from rfl)).trans ?_
    exact K_calV (d := d) (Y := mX0_read) (Z := mX6_get) (vs := [.int x3, .int x5]) (rest := []) (la := [.ref 69, .int x3, .int x5]) dX0_read_52 rfl rfl rfl rfl ⟨by decide, rfl⟩ (Nat.le_of_ble_eq_true rfl) rfl (Nat.le_of_ble_eq_true rfl)
theorem B_X0_read_72 {o : q_H} (d : Nat) (x2 x3 x4 x5 : Int32) (g : Nat → Nat → Int32) : q_sem (d + 1) mX0_read 72 [.ref 91, .ref 69, .int x2, .int x3, .int x4, .int x5, .retAddr 0, .retAddr 0, .retAddr 0] [] (q_K o g) = (if x4 ≤ x5 then some (some (.int 1), q_K o g) else (q_sem d mX6_get 0 [.ref 69, .int x2, .int x5] [] (q_K o g)).bind (fun r => q_sem (d + 1) mX0_read 86 [.ref 91, .ref 69, .int x2, .int x3, .int x4, .int x5, .retAddr 0, .retAddr 0, .retAddr 0] (r.1.toList ++ []) r.2)) := by
  refine (q_blk (Y := mX0_read) (q_dcC dX0_read_72 (q_dcC dX0_read_74 (q_dcC dX0_read_76 q_dcN))) (show _ = some ((if q_cc .ge x5 x4 = true then 174 else 79), [.ref 91, .ref 69, .int x2, .int x3, .int x4, .int x5, .retAddr 0, .retAddr 0, .retAddr 0], []) from rfl)).trans ?_
  by_cases c1 : x4 ≤ x5
  · rw [if_pos (show q_cc .ge x5 x4 = true from decide_eq_true c1)]
    refine Eq.trans ?_ (if_pos c1).symm
    refine (q_blk (Y := mX0_read) (q_dcC dX0_read_174 q_dcN) (show _ = some (175, [.ref 91, .ref 69, .int x2, .int x3, .int x4, .int x5, .retAddr 0, .retAddr 0, .retAddr 0], [.int 1]) from rfl)).trans ?_
    exact k_iret (Y := mX0_read) dX0_read_175 rfl
  · rw [if_neg (show ¬ q_cc .ge x5 x4 = true from fun z => c1 (of_decide_eq_true z))]
    refine Eq.trans ?_ (if_neg c1).symm
    refine (q_blk (Y := mX0_read) (q_dcC dX0_read_79 (q_dcC dX0_read_80 (q_dcC dX0_read_81 q_dcN))) (show _ = some (83, [.ref 91, .ref 69, .int x2, .int x3, .int x4, .int x5, .retAddr 0, .retAddr 0, .retAddr 0], [.int x5, .int x2, .ref 69]) from rfl)).trans ?_
    exact K_calV (d := d) (Y := mX0_read) (Z := mX6_get) (vs := [.int x2, .int x5]) (rest := []) (la := [.ref 69, .int x2, .int x5]) dX0_read_83 rfl rfl rfl rfl ⟨by decide, rfl⟩ (Nat.le_of_ble_eq_true rfl) rfl (Nat.le_of_ble_eq_true rfl)
theorem B_X0_read_55 {o : q_H} (d : Nat) (x2 x3 x4 x5 y0 : Int32) (g : Nat → Nat → Int32) : q_sem (d + 1) mX0_read 55 [.ref 91, .ref 69, .int x2, .int x3, .int x4, .int x5, .retAddr 0, .retAddr 0, .retAddr 0] [.int y0] (q_K o g) = (q_sem d mX3_isCell 0 [.int y0] [] (q_K o g)).bind (fun r => q_sem (d + 1) mX0_read 58 [.ref 91, .ref 69, .int x2, .int x3, .int x4, .int x5, .retAddr 0, .retAddr 0, .retAddr 0] (r.1.toList ++ []) r.2) := by
  exact K_calS (d := d) (Y := mX0_read) (Z := mX3_isCell) (vs := [.int y0]) (rest := []) (la := [.int y0]) dX0_read_55 rfl rfl rfl rfl (Nat.le_of_ble_eq_true rfl) rfl (Nat.le_of_ble_eq_true rfl)
theorem B_X0_read_86 {o : q_H} (d : Nat) (x2 x3 x4 x5 y0 : Int32) (g : Nat → Nat → Int32) : q_sem (d + 1) mX0_read 86 [.ref 91, .ref 69, .int x2, .int x3, .int x4, .int x5, .retAddr 0, .retAddr 0, .retAddr 0] [.int y0] (q_K o g) = (q_sem d mX6_get 0 [.ref 69, .int x2, .int (x5 + 1)] [] (q_K o g)).bind (fun r => q_sem (d + 1) mX0_read 97 [.ref 91, .ref 69, .int x2, .int x3, .int x4, .int x5, .int y0, .retAddr 0, .retAddr 0] (r.1.toList ++ []) r.2) := by
  refine (q_blk (Y := mX0_read) (q_dcC dX0_read_86 (q_dcC dX0_read_88 (q_dcC dX0_read_89 (q_dcC dX0_read_90 (q_dcC dX0_read_92 (q_dcC dX0_read_93 q_dcN)))))) (show _ = some (94, [.ref 91, .ref 69, .int x2, .int x3, .int x4, .int x5, .int y0, .retAddr 0, .retAddr 0], [.int (x5 + 1), .int x2, .ref 69]) from rfl)).trans ?_
  exact K_calV (d := d) (Y := mX0_read) (Z := mX6_get) (vs := [.int x2, .int (x5 + 1)]) (rest := []) (la := [.ref 69, .int x2, .int (x5 + 1)]) dX0_read_94 rfl rfl rfl rfl ⟨by decide, rfl⟩ (Nat.le_of_ble_eq_true rfl) rfl (Nat.le_of_ble_eq_true rfl)
theorem B_X0_read_58 {o : q_H} (d : Nat) (x2 x3 x4 x5 y0 : Int32) (g : Nat → Nat → Int32) : q_sem (d) mX0_read 58 [.ref 91, .ref 69, .int x2, .int x3, .int x4, .int x5, .retAddr 0, .retAddr 0, .retAddr 0] [.int y0] (q_K o g) = (if y0 = 0 then some (some (.int 0), q_K o g) else q_sem (d) mX0_read 38 [.ref 91, .ref 69, .int x2, .int x3, .int x4, .int (x5 + 1), .retAddr 0, .retAddr 0, .retAddr 0] [] (q_K o g)) := by
  refine (q_blk (Y := mX0_read) (q_dcC dX0_read_58 q_dcN) (show _ = some ((if q_cc .ne y0 0 = true then 63 else 61), [.ref 91, .ref 69, .int x2, .int x3, .int x4, .int x5, .retAddr 0, .retAddr 0, .retAddr 0], []) from rfl)).trans ?_
  by_cases c1 : y0 = 0
  · rw [if_neg (show ¬ q_cc .ne y0 0 = true from fun z => (of_decide_eq_true z : ¬ y0 = 0) c1)]
    refine Eq.trans ?_ (if_pos c1).symm
    refine (q_blk (Y := mX0_read) (q_dcC dX0_read_61 q_dcN) (show _ = some (62, [.ref 91, .ref 69, .int x2, .int x3, .int x4, .int x5, .retAddr 0, .retAddr 0, .retAddr 0], [.int 0]) from rfl)).trans ?_
    exact k_iret (Y := mX0_read) dX0_read_62 rfl
  · rw [if_pos (show q_cc .ne y0 0 = true from decide_eq_true c1)]
    refine Eq.trans ?_ (if_neg c1).symm
    refine (q_blk (Y := mX0_read) (q_dcC dX0_read_63 (q_dcC dX0_read_66 q_dcN)) (show _ = some (38, [.ref 91, .ref 69, .int x2, .int x3, .int x4, .int (x5 + 1), .retAddr 0, .retAddr 0, .retAddr 0], []) from rfl)).trans ?_
    rfl
theorem B_X0_read_97 {o : q_H} (d : Nat) (x2 x3 x4 x5 x6 y0 : Int32) (g : Nat → Nat → Int32) : q_sem (d + 1) mX0_read 97 [.ref 91, .ref 69, .int x2, .int x3, .int x4, .int x5, .int x6, .retAddr 0, .retAddr 0] [.int y0] (q_K o g) = (q_sem d mX6_get 0 [.ref 69, .int x2, .int (x5 + 2)] [] (q_K o g)).bind (fun r => q_sem (d + 1) mX0_read 108 [.ref 91, .ref 69, .int x2, .int x3, .int x4, .int x5, .int x6, .int y0, .retAddr 0] (r.1.toList ++ []) r.2) := by
  refine (q_blk (Y := mX0_read) (q_dcC dX0_read_97 (q_dcC dX0_read_99 (q_dcC dX0_read_100 (q_dcC dX0_read_101 (q_dcC dX0_read_103 (q_dcC dX0_read_104 q_dcN)))))) (show _ = some (105, [.ref 91, .ref 69, .int x2, .int x3, .int x4, .int x5, .int x6, .int y0, .retAddr 0], [.int (x5 + 2), .int x2, .ref 69]) from rfl)).trans ?_
  exact K_calV (d := d) (Y := mX0_read) (Z := mX6_get) (vs := [.int x2, .int (x5 + 2)]) (rest := []) (la := [.ref 69, .int x2, .int (x5 + 2)]) dX0_read_105 rfl rfl rfl rfl ⟨by decide, rfl⟩ (Nat.le_of_ble_eq_true rfl) rfl (Nat.le_of_ble_eq_true rfl)
theorem B_X0_read_108 {o : q_H} (d : Nat) (x2 x3 x4 x5 x6 x7 y0 : Int32) (g : Nat → Nat → Int32) : q_sem (d + 1) mX0_read 108 [.ref 91, .ref 69, .int x2, .int x3, .int x4, .int x5, .int x6, .int x7, .retAddr 0] [.int y0] (q_K o g) = (q_sem d mX11_within 0 [.int x6, .int 0, .int 15] [] (q_K o g)).bind (fun r => q_sem (d + 1) mX0_read 118 [.ref 91, .ref 69, .int x2, .int x3, .int x4, .int x5, .int x6, .int x7, .int y0] (r.1.toList ++ []) r.2) := by
  refine (q_blk (Y := mX0_read) (q_dcC dX0_read_108 (q_dcC dX0_read_110 (q_dcC dX0_read_112 (q_dcC dX0_read_113 q_dcN)))) (show _ = some (115, [.ref 91, .ref 69, .int x2, .int x3, .int x4, .int x5, .int x6, .int x7, .int y0], [.int 15, .int 0, .int x6]) from rfl)).trans ?_
  exact K_calN (d := d) (Y := mX0_read) (Z := mX11_within) (vs := [.int x6, .int 0, .int 15]) (rest := []) (la := [.int x6, .int 0, .int 15]) dX0_read_115 rfl rfl rfl rfl rfl (Nat.le_of_ble_eq_true rfl) rfl (Nat.le_of_ble_eq_true rfl)
theorem B_X0_read_118 {o : q_H} (d : Nat) (x2 x3 x4 x5 x6 x7 x8 y0 : Int32) (g : Nat → Nat → Int32) : q_sem (d + 1) mX0_read 118 [.ref 91, .ref 69, .int x2, .int x3, .int x4, .int x5, .int x6, .int x7, .int x8] [.int y0] (q_K o g) = (if y0 = 0 then some (some (.int 0), q_K o g) else (q_sem d mX11_within 0 [.int x7, .int 0, .int 15] [] (q_K o g)).bind (fun r => q_sem (d + 1) mX0_read 129 [.ref 91, .ref 69, .int x2, .int x3, .int x4, .int x5, .int x6, .int x7, .int x8] (r.1.toList ++ []) r.2)) := by
  refine (q_blk (Y := mX0_read) (q_dcC dX0_read_118 q_dcN) (show _ = some ((if q_cc .eq y0 0 = true then 143 else 121), [.ref 91, .ref 69, .int x2, .int x3, .int x4, .int x5, .int x6, .int x7, .int x8], []) from rfl)).trans ?_
  by_cases c1 : y0 = 0
  · rw [if_pos (show q_cc .eq y0 0 = true from decide_eq_true c1)]
    refine Eq.trans ?_ (if_pos c1).symm
    refine (q_blk (Y := mX0_read) (q_dcC dX0_read_143 q_dcN) (show _ = some (144, [.ref 91, .ref 69, .int x2, .int x3, .int x4, .int x5, .int x6, .int x7, .int x8], [.int 0]) from rfl)).trans ?_
    exact k_iret (Y := mX0_read) dX0_read_144 rfl
  · rw [if_neg (show ¬ q_cc .eq y0 0 = true from fun z => c1 (of_decide_eq_true z))]
    refine Eq.trans ?_ (if_neg c1).symm
    refine (q_blk (Y := mX0_read) (q_dcC dX0_read_121 (q_dcC dX0_read_123 (q_dcC dX0_read_124 q_dcN))) (show _ = some (126, [.ref 91, .ref 69, .int x2, .int x3, .int x4, .int x5, .int x6, .int x7, .int x8], [.int 15, .int 0, .int x7]) from rfl)).trans ?_
    exact K_calN (d := d) (Y := mX0_read) (Z := mX11_within) (vs := [.int x7, .int 0, .int 15]) (rest := []) (la := [.int x7, .int 0, .int 15]) dX0_read_126 rfl rfl rfl rfl rfl (Nat.le_of_ble_eq_true rfl) rfl (Nat.le_of_ble_eq_true rfl)
theorem B_X0_read_129 {o : q_H} (d : Nat) (x2 x3 x4 x5 x6 x7 x8 y0 : Int32) (g : Nat → Nat → Int32) : q_sem (d + 1) mX0_read 129 [.ref 91, .ref 69, .int x2, .int x3, .int x4, .int x5, .int x6, .int x7, .int x8] [.int y0] (q_K o g) = (if y0 = 0 then some (some (.int 0), q_K o g) else (q_sem d mX11_within 0 [.int x8, .int 1, .int 15] [] (q_K o g)).bind (fun r => q_sem (d + 1) mX0_read 140 [.ref 91, .ref 69, .int x2, .int x3, .int x4, .int x5, .int x6, .int x7, .int x8] (r.1.toList ++ []) r.2)) := by
  refine (q_blk (Y := mX0_read) (q_dcC dX0_read_129 q_dcN) (show _ = some ((if q_cc .eq y0 0 = true then 143 else 132), [.ref 91, .ref 69, .int x2, .int x3, .int x4, .int x5, .int x6, .int x7, .int x8], []) from rfl)).trans ?_
  by_cases c1 : y0 = 0
  · rw [if_pos (show q_cc .eq y0 0 = true from decide_eq_true c1)]
    refine Eq.trans ?_ (if_pos c1).symm
    refine (q_blk (Y := mX0_read) (q_dcC dX0_read_143 q_dcN) (show _ = some (144, [.ref 91, .ref 69, .int x2, .int x3, .int x4, .int x5, .int x6, .int x7, .int x8], [.int 0]) from rfl)).trans ?_
    exact k_iret (Y := mX0_read) dX0_read_144 rfl
  · rw [if_neg (show ¬ q_cc .eq y0 0 = true from fun z => c1 (of_decide_eq_true z))]
    refine Eq.trans ?_ (if_neg c1).symm
    refine (q_blk (Y := mX0_read) (q_dcC dX0_read_132 (q_dcC dX0_read_134 (q_dcC dX0_read_135 q_dcN))) (show _ = some (137, [.ref 91, .ref 69, .int x2, .int x3, .int x4, .int x5, .int x6, .int x7, .int x8], [.int 15, .int 1, .int x8]) from rfl)).trans ?_
    exact K_calN (d := d) (Y := mX0_read) (Z := mX11_within) (vs := [.int x8, .int 1, .int 15]) (rest := []) (la := [.int x8, .int 1, .int 15]) dX0_read_137 rfl rfl rfl rfl rfl (Nat.le_of_ble_eq_true rfl) rfl (Nat.le_of_ble_eq_true rfl)
theorem B_X0_read_140 {o : q_H} (d : Nat) (x2 x3 x4 x5 x6 x7 x8 y0 : Int32) (g : Nat → Nat → Int32) : q_sem (d + 1) mX0_read 140 [.ref 91, .ref 69, .int x2, .int x3, .int x4, .int x5, .int x6, .int x7, .int x8] [.int y0] (q_K o g) = (if y0 = 0 then some (some (.int 0), q_K o g) else (q_sem d mX0_seen 0 [.ref 69, .int x3, .int ((16 * x7) + x6), .int x8, .retAddr 0, .retAddr 0] [] (q_K o g)).bind (fun r => q_sem (d + 1) mX0_read 164 [.ref 91, .ref 69, .int x2, .int x3, .int x4, .int x5, .int x6, .int x7, .int x8] (r.1.toList ++ [.ref 92]) r.2)) := by
  refine (q_blk (Y := mX0_read) (q_dcC dX0_read_140 q_dcN) (show _ = some ((if q_cc .ne y0 0 = true then 145 else 143), [.ref 91, .ref 69, .int x2, .int x3, .int x4, .int x5, .int x6, .int x7, .int x8], []) from rfl)).trans ?_
  by_cases c1 : y0 = 0
  · rw [if_neg (show ¬ q_cc .ne y0 0 = true from fun z => (of_decide_eq_true z : ¬ y0 = 0) c1)]
    refine Eq.trans ?_ (if_pos c1).symm
    refine (q_blk (Y := mX0_read) (q_dcC dX0_read_143 q_dcN) (show _ = some (144, [.ref 91, .ref 69, .int x2, .int x3, .int x4, .int x5, .int x6, .int x7, .int x8], [.int 0]) from rfl)).trans ?_
    exact k_iret (Y := mX0_read) dX0_read_144 rfl
  · rw [if_pos (show q_cc .ne y0 0 = true from decide_eq_true c1)]
    refine Eq.trans ?_ (if_neg c1).symm
    refine (q_blk (Y := mX0_read) (q_dcC dX0_read_145 q_dcN) (show _ = some (146, [.ref 91, .ref 69, .int x2, .int x3, .int x4, .int x5, .int x6, .int x7, .int x8], [.ref 91]) from rfl)).trans ?_
    refine (k_getr (Y := mX0_read) dX0_read_146 rfl rfl ⟨by decide, rfl⟩ (by decide) rfl).trans ?_
    refine (q_blk (Y := mX0_read) (q_dcC dX0_read_149 (q_dcC dX0_read_150 (q_dcC dX0_read_151 (q_dcC dX0_read_153 (q_dcC dX0_read_155 (q_dcC dX0_read_156 (q_dcC dX0_read_158 (q_dcC dX0_read_159 q_dcN)))))))) (show _ = some (161, [.ref 91, .ref 69, .int x2, .int x3, .int x4, .int x5, .int x6, .int x7, .int x8], [.int x8, .int ((16 * x7) + x6), .int x3, .ref 69, .ref 92]) from rfl)).trans ?_
    exact K_calS (d := d) (Y := mX0_read) (Z := mX0_seen) (vs := [.ref 69, .int x3, .int ((16 * x7) + x6), .int x8]) (rest := [.ref 92]) (la := [.ref 69, .int x3, .int ((16 * x7) + x6), .int x8, .retAddr 0, .retAddr 0]) dX0_read_161 rfl rfl rfl rfl (Nat.le_of_ble_eq_true rfl) rfl (Nat.le_of_ble_eq_true rfl)
theorem B_X0_read_164 {o : q_H} (d : Nat) (x2 x3 x4 x5 x6 x7 x8 y0 : Int32) (g : Nat → Nat → Int32) : q_sem (d + 1) mX0_read 164 [.ref 91, .ref 69, .int x2, .int x3, .int x4, .int x5, .int x6, .int x7, .int x8] [.int y0, .ref 92] (q_K o g) = (q_sem d mX7_add 0 [.ref 92, .int y0, .retAddr 0] [] (q_K o g)).bind (fun r => q_sem (d + 1) mX0_read 167 [.ref 91, .ref 69, .int x2, .int x3, .int x4, .int x5, .int x6, .int x7, .int x8] (r.1.toList ++ []) r.2) := by
  exact K_calV (d := d) (Y := mX0_read) (Z := mX7_add) (vs := [.int y0]) (rest := []) (la := [.ref 92, .int y0, .retAddr 0]) dX0_read_164 rfl rfl rfl rfl ⟨by decide, rfl⟩ (Nat.le_of_ble_eq_true rfl) rfl (Nat.le_of_ble_eq_true rfl)
theorem B_X0_read_167 {o : q_H} (d : Nat) (x2 x3 x4 x5 x6 x7 x8 y0 : Int32) (g : Nat → Nat → Int32) : q_sem (d) mX0_read 167 [.ref 91, .ref 69, .int x2, .int x3, .int x4, .int x5, .int x6, .int x7, .int x8] [.int y0] (q_K o g) = q_sem (d) mX0_read 72 [.ref 91, .ref 69, .int x2, .int x3, .int x4, .int (x5 + 3), .int x6, .int x7, .int x8] [] (q_K o g) := by
  refine (q_blk (Y := mX0_read) (q_dcC dX0_read_167 (q_dcC dX0_read_168 (q_dcC dX0_read_171 q_dcN))) (show _ = some (72, [.ref 91, .ref 69, .int x2, .int x3, .int x4, .int (x5 + 3), .int x6, .int x7, .int x8], []) from rfl)).trans ?_
  rfl
theorem B_X0_read_72a {o : q_H} (d : Nat) (x2 x3 x4 x5 x6 x7 x8 : Int32) (g : Nat → Nat → Int32) : q_sem (d + 1) mX0_read 72 [.ref 91, .ref 69, .int x2, .int x3, .int x4, .int x5, .int x6, .int x7, .int x8] [] (q_K o g) = (if x4 ≤ x5 then some (some (.int 1), q_K o g) else (q_sem d mX6_get 0 [.ref 69, .int x2, .int x5] [] (q_K o g)).bind (fun r => q_sem (d + 1) mX0_read 86 [.ref 91, .ref 69, .int x2, .int x3, .int x4, .int x5, .int x6, .int x7, .int x8] (r.1.toList ++ []) r.2)) := by
  refine (q_blk (Y := mX0_read) (q_dcC dX0_read_72 (q_dcC dX0_read_74 (q_dcC dX0_read_76 q_dcN))) (show _ = some ((if q_cc .ge x5 x4 = true then 174 else 79), [.ref 91, .ref 69, .int x2, .int x3, .int x4, .int x5, .int x6, .int x7, .int x8], []) from rfl)).trans ?_
  by_cases c1 : x4 ≤ x5
  · rw [if_pos (show q_cc .ge x5 x4 = true from decide_eq_true c1)]
    refine Eq.trans ?_ (if_pos c1).symm
    refine (q_blk (Y := mX0_read) (q_dcC dX0_read_174 q_dcN) (show _ = some (175, [.ref 91, .ref 69, .int x2, .int x3, .int x4, .int x5, .int x6, .int x7, .int x8], [.int 1]) from rfl)).trans ?_
    exact k_iret (Y := mX0_read) dX0_read_175 rfl
  · rw [if_neg (show ¬ q_cc .ge x5 x4 = true from fun z => c1 (of_decide_eq_true z))]
    refine Eq.trans ?_ (if_neg c1).symm
    refine (q_blk (Y := mX0_read) (q_dcC dX0_read_79 (q_dcC dX0_read_80 (q_dcC dX0_read_81 q_dcN))) (show _ = some (83, [.ref 91, .ref 69, .int x2, .int x3, .int x4, .int x5, .int x6, .int x7, .int x8], [.int x5, .int x2, .ref 69]) from rfl)).trans ?_
    exact K_calV (d := d) (Y := mX0_read) (Z := mX6_get) (vs := [.int x2, .int x5]) (rest := []) (la := [.ref 69, .int x2, .int x5]) dX0_read_83 rfl rfl rfl rfl ⟨by decide, rfl⟩ (Nat.le_of_ble_eq_true rfl) rfl (Nat.le_of_ble_eq_true rfl)
theorem B_X0_read_86a {o : q_H} (d : Nat) (x2 x3 x4 x5 x6 x7 x8 y0 : Int32) (g : Nat → Nat → Int32) : q_sem (d + 1) mX0_read 86 [.ref 91, .ref 69, .int x2, .int x3, .int x4, .int x5, .int x6, .int x7, .int x8] [.int y0] (q_K o g) = (q_sem d mX6_get 0 [.ref 69, .int x2, .int (x5 + 1)] [] (q_K o g)).bind (fun r => q_sem (d + 1) mX0_read 97 [.ref 91, .ref 69, .int x2, .int x3, .int x4, .int x5, .int y0, .int x7, .int x8] (r.1.toList ++ []) r.2) := by
  refine (q_blk (Y := mX0_read) (q_dcC dX0_read_86 (q_dcC dX0_read_88 (q_dcC dX0_read_89 (q_dcC dX0_read_90 (q_dcC dX0_read_92 (q_dcC dX0_read_93 q_dcN)))))) (show _ = some (94, [.ref 91, .ref 69, .int x2, .int x3, .int x4, .int x5, .int y0, .int x7, .int x8], [.int (x5 + 1), .int x2, .ref 69]) from rfl)).trans ?_
  exact K_calV (d := d) (Y := mX0_read) (Z := mX6_get) (vs := [.int x2, .int (x5 + 1)]) (rest := []) (la := [.ref 69, .int x2, .int (x5 + 1)]) dX0_read_94 rfl rfl rfl rfl ⟨by decide, rfl⟩ (Nat.le_of_ble_eq_true rfl) rfl (Nat.le_of_ble_eq_true rfl)
theorem B_X0_read_97a {o : q_H} (d : Nat) (x2 x3 x4 x5 x6 x7 x8 y0 : Int32) (g : Nat → Nat → Int32) : q_sem (d + 1) mX0_read 97 [.ref 91, .ref 69, .int x2, .int x3, .int x4, .int x5, .int x6, .int x7, .int x8] [.int y0] (q_K o g) = (q_sem d mX6_get 0 [.ref 69, .int x2, .int (x5 + 2)] [] (q_K o g)).bind (fun r => q_sem (d + 1) mX0_read 108 [.ref 91, .ref 69, .int x2, .int x3, .int x4, .int x5, .int x6, .int y0, .int x8] (r.1.toList ++ []) r.2) := by
  refine (q_blk (Y := mX0_read) (q_dcC dX0_read_97 (q_dcC dX0_read_99 (q_dcC dX0_read_100 (q_dcC dX0_read_101 (q_dcC dX0_read_103 (q_dcC dX0_read_104 q_dcN)))))) (show _ = some (105, [.ref 91, .ref 69, .int x2, .int x3, .int x4, .int x5, .int x6, .int y0, .int x8], [.int (x5 + 2), .int x2, .ref 69]) from rfl)).trans ?_
  exact K_calV (d := d) (Y := mX0_read) (Z := mX6_get) (vs := [.int x2, .int (x5 + 2)]) (rest := []) (la := [.ref 69, .int x2, .int (x5 + 2)]) dX0_read_105 rfl rfl rfl rfl ⟨by decide, rfl⟩ (Nat.le_of_ble_eq_true rfl) rfl (Nat.le_of_ble_eq_true rfl)
theorem B_X0_read_108a {o : q_H} (d : Nat) (x2 x3 x4 x5 x6 x7 x8 y0 : Int32) (g : Nat → Nat → Int32) : q_sem (d + 1) mX0_read 108 [.ref 91, .ref 69, .int x2, .int x3, .int x4, .int x5, .int x6, .int x7, .int x8] [.int y0] (q_K o g) = (q_sem d mX11_within 0 [.int x6, .int 0, .int 15] [] (q_K o g)).bind (fun r => q_sem (d + 1) mX0_read 118 [.ref 91, .ref 69, .int x2, .int x3, .int x4, .int x5, .int x6, .int x7, .int y0] (r.1.toList ++ []) r.2) := by
  refine (q_blk (Y := mX0_read) (q_dcC dX0_read_108 (q_dcC dX0_read_110 (q_dcC dX0_read_112 (q_dcC dX0_read_113 q_dcN)))) (show _ = some (115, [.ref 91, .ref 69, .int x2, .int x3, .int x4, .int x5, .int x6, .int x7, .int y0], [.int 15, .int 0, .int x6]) from rfl)).trans ?_
  exact K_calN (d := d) (Y := mX0_read) (Z := mX11_within) (vs := [.int x6, .int 0, .int 15]) (rest := []) (la := [.int x6, .int 0, .int 15]) dX0_read_115 rfl rfl rfl rfl rfl (Nat.le_of_ble_eq_true rfl) rfl (Nat.le_of_ble_eq_true rfl)
theorem B_X0_seen_0 {o : q_H} (d : Nat) (x1 x2 x3 : Int32) (g : Nat → Nat → Int32) : q_sem (d) mX0_seen 0 [.ref 69, .int x1, .int x2, .int x3, .retAddr 0, .retAddr 0] [] (q_K o g) = q_sem (d) mX0_seen 6 [.ref 69, .int x1, .int x2, .int x3, .int 0, .int 0] [] (q_K o g) := by
  refine (q_blk (Y := mX0_seen) (q_dcC dX0_seen_0 (q_dcC dX0_seen_1 (q_dcC dX0_seen_3 (q_dcC dX0_seen_4 q_dcN)))) (show _ = some (6, [.ref 69, .int x1, .int x2, .int x3, .int 0, .int 0], []) from rfl)).trans ?_
  rfl
theorem B_X0_seen_6 {o : q_H} (d : Nat) (x1 x2 x3 x4 x5 : Int32) (g : Nat → Nat → Int32) : q_sem (d + 1) mX0_seen 6 [.ref 69, .int x1, .int x2, .int x3, .int x4, .int x5] [] (q_K o g) = (q_sem d mX6_size 0 [.ref 69, .int x1] [] (q_K o g)).bind (fun r => q_sem (d + 1) mX0_seen 13 [.ref 69, .int x1, .int x2, .int x3, .int x4, .int x5] (r.1.toList ++ [.int x5]) r.2) := by
  refine (q_blk (Y := mX0_seen) (q_dcC dX0_seen_6 (q_dcC dX0_seen_8 (q_dcC dX0_seen_9 q_dcN))) (show _ = some (10, [.ref 69, .int x1, .int x2, .int x3, .int x4, .int x5], [.int x1, .ref 69, .int x5]) from rfl)).trans ?_
  exact K_calV (d := d) (Y := mX0_seen) (Z := mX6_size) (vs := [.int x1]) (rest := [.int x5]) (la := [.ref 69, .int x1]) dX0_seen_10 rfl rfl rfl rfl ⟨by decide, rfl⟩ (Nat.le_of_ble_eq_true rfl) rfl (Nat.le_of_ble_eq_true rfl)
theorem B_X0_seen_13 {o : q_H} (d : Nat) (x1 x2 x3 x4 x5 y0 y1 : Int32) (g : Nat → Nat → Int32) : q_sem (d + 1) mX0_seen 13 [.ref 69, .int x1, .int x2, .int x3, .int x4, .int x5] [.int y0, .int y1] (q_K o g) = (if y0 ≤ y1 then some (some (.int x4), q_K o g) else (q_sem d mX6_get 0 [.ref 69, .int x1, .int x5] [] (q_K o g)).bind (fun r => q_sem (d + 1) mX0_seen 24 [.ref 69, .int x1, .int x2, .int x3, .int x4, .int x5] (r.1.toList ++ [.int x2]) r.2)) := by
  refine (q_blk (Y := mX0_seen) (q_dcC dX0_seen_13 q_dcN) (show _ = some ((if q_cc .ge y1 y0 = true then 46 else 16), [.ref 69, .int x1, .int x2, .int x3, .int x4, .int x5], []) from rfl)).trans ?_
  by_cases c1 : y0 ≤ y1
  · rw [if_pos (show q_cc .ge y1 y0 = true from decide_eq_true c1)]
    refine Eq.trans ?_ (if_pos c1).symm
    refine (q_blk (Y := mX0_seen) (q_dcC dX0_seen_46 q_dcN) (show _ = some (48, [.ref 69, .int x1, .int x2, .int x3, .int x4, .int x5], [.int x4]) from rfl)).trans ?_
    exact k_iret (Y := mX0_seen) dX0_seen_48 rfl
  · rw [if_neg (show ¬ q_cc .ge y1 y0 = true from fun z => c1 (of_decide_eq_true z))]
    refine Eq.trans ?_ (if_neg c1).symm
    refine (q_blk (Y := mX0_seen) (q_dcC dX0_seen_16 (q_dcC dX0_seen_17 (q_dcC dX0_seen_18 (q_dcC dX0_seen_19 q_dcN)))) (show _ = some (21, [.ref 69, .int x1, .int x2, .int x3, .int x4, .int x5], [.int x5, .int x1, .ref 69, .int x2]) from rfl)).trans ?_
    exact K_calV (d := d) (Y := mX0_seen) (Z := mX6_get) (vs := [.int x1, .int x5]) (rest := [.int x2]) (la := [.ref 69, .int x1, .int x5]) dX0_seen_21 rfl rfl rfl rfl ⟨by decide, rfl⟩ (Nat.le_of_ble_eq_true rfl) rfl (Nat.le_of_ble_eq_true rfl)
theorem B_X0_seen_24 {o : q_H} (d : Nat) (x1 x2 x3 x4 x5 y0 y1 : Int32) (g : Nat → Nat → Int32) : q_sem (d + 1) mX0_seen 24 [.ref 69, .int x1, .int x2, .int x3, .int x4, .int x5] [.int y0, .int y1] (q_K o g) = (q_sem d mX3_reaches 0 [.int y1, .int y0, .int x3, .retAddr 0, .retAddr 0] [] (q_K o g)).bind (fun r => q_sem (d + 1) mX0_seen 28 [.ref 69, .int x1, .int x2, .int x3, .int x4, .int x5] (r.1.toList ++ []) r.2) := by
  refine (q_blk (Y := mX0_seen) (q_dcC dX0_seen_24 q_dcN) (show _ = some (25, [.ref 69, .int x1, .int x2, .int x3, .int x4, .int x5], [.int x3, .int y0, .int y1]) from rfl)).trans ?_
  exact K_calS (d := d) (Y := mX0_seen) (Z := mX3_reaches) (vs := [.int y1, .int y0, .int x3]) (rest := []) (la := [.int y1, .int y0, .int x3, .retAddr 0, .retAddr 0]) dX0_seen_25 rfl rfl rfl rfl (Nat.le_of_ble_eq_true rfl) rfl (Nat.le_of_ble_eq_true rfl)
theorem B_X0_seen_28 {o : q_H} (d : Nat) (x1 x2 x3 x4 x5 y0 : Int32) (g : Nat → Nat → Int32) : q_sem (d) mX0_seen 28 [.ref 69, .int x1, .int x2, .int x3, .int x4, .int x5] [.int y0] (q_K o g) = (if y0 = 0 then q_sem (d) mX0_seen 6 [.ref 69, .int x1, .int x2, .int x3, .int x4, .int (x5 + 1)] [] (q_K o g) else q_sem (d) mX0_seen 6 [.ref 69, .int x1, .int x2, .int x3, .int (x4 ||| (1 <<< ((x5 : Int32) &&& 31))), .int (x5 + 1)] [] (q_K o g)) := by
  refine (q_blk (Y := mX0_seen) (q_dcC dX0_seen_28 q_dcN) (show _ = some ((if q_cc .eq y0 0 = true then 40 else 31), [.ref 69, .int x1, .int x2, .int x3, .int x4, .int x5], []) from rfl)).trans ?_
  by_cases c1 : y0 = 0
  · rw [if_pos (show q_cc .eq y0 0 = true from decide_eq_true c1)]
    refine Eq.trans ?_ (if_pos c1).symm
    refine (q_blk (Y := mX0_seen) (q_dcC dX0_seen_40 (q_dcC dX0_seen_43 q_dcN)) (show _ = some (6, [.ref 69, .int x1, .int x2, .int x3, .int x4, .int (x5 + 1)], []) from rfl)).trans ?_
    rfl
  · rw [if_neg (show ¬ q_cc .eq y0 0 = true from fun z => c1 (of_decide_eq_true z))]
    refine Eq.trans ?_ (if_neg c1).symm
    refine (q_blk (Y := mX0_seen) (q_dcC dX0_seen_31 (q_dcC dX0_seen_33 (q_dcC dX0_seen_34 (q_dcC dX0_seen_36 (q_dcC dX0_seen_37 (q_dcC dX0_seen_38 (q_dcC dX0_seen_40 (q_dcC dX0_seen_43 q_dcN)))))))) (show _ = some (6, [.ref 69, .int x1, .int x2, .int x3, .int (x4 ||| (1 <<< ((x5 : Int32) &&& 31))), .int (x5 + 1)], []) from rfl)).trans ?_
    rfl
theorem B_X0_masts_0 {o : q_H} (d : Nat) (g : Nat → Nat → Int32) : q_sem (d + 1) mX0_masts 0 [.ref 91] [] (q_K o g) = (q_sem d mX7_size 0 [.ref 92] [] (q_K o g)).bind (fun r => q_sem (d + 1) mX0_masts 7 [.ref 91] (r.1.toList ++ []) r.2) := by
  refine (q_blk (Y := mX0_masts) (q_dcC dX0_masts_0 q_dcN) (show _ = some (1, [.ref 91], [.ref 91]) from rfl)).trans ?_
  refine (k_getr (Y := mX0_masts) dX0_masts_1 rfl rfl ⟨by decide, rfl⟩ (by decide) rfl).trans ?_
  exact K_calV (d := d) (Y := mX0_masts) (Z := mX7_size) (vs := []) (rest := []) (la := [.ref 92]) dX0_masts_4 rfl rfl rfl rfl ⟨by decide, rfl⟩ (Nat.le_of_ble_eq_true rfl) rfl (Nat.le_of_ble_eq_true rfl)
theorem B_X0_masts_7 {o : q_H} (d : Nat) (y0 : Int32) (g : Nat → Nat → Int32) : q_sem (d) mX0_masts 7 [.ref 91] [.int y0] (q_K o g) = some (some (.int y0), q_K o g) := by
  exact k_iret (Y := mX0_masts) dX0_masts_7 rfl
theorem B_X0_choose_0 {o : q_H} (d : Nat) (x1 : Int32) (g : Nat → Nat → Int32) : q_sem (d) mX0_choose 0 [.ref 91, .int x1, .retAddr 0] [] (q_K o g) = q_sem (d) mX0_choose 12 [.ref 91, .int x1, .int 0] [] (q_K o (q_up (q_up g 91 1 (-1)) 91 2 0)) := by
  refine (q_blk (Y := mX0_choose) (q_dcC dX0_choose_0 (q_dcC dX0_choose_1 q_dcN)) (show _ = some (2, [.ref 91, .int x1, .retAddr 0], [.int (-1), .ref 91]) from rfl)).trans ?_
  refine (k_puti (Y := mX0_choose) dX0_choose_2 rfl ⟨by decide, rfl⟩ (by decide) rfl rfl rfl rfl).trans ?_
  refine (q_blk (Y := mX0_choose) (q_dcC dX0_choose_5 (q_dcC dX0_choose_6 q_dcN)) (show _ = some (7, [.ref 91, .int x1, .retAddr 0], [.int 0, .ref 91]) from rfl)).trans ?_
  refine (k_puti (Y := mX0_choose) dX0_choose_7 rfl ⟨by decide, rfl⟩ (by decide) rfl rfl rfl rfl).trans ?_
  refine (q_blk (Y := mX0_choose) (q_dcC dX0_choose_10 (q_dcC dX0_choose_11 q_dcN)) (show _ = some (12, [.ref 91, .int x1, .int 0], []) from rfl)).trans ?_
  rfl
theorem B_X0_choose_12 {o : q_H} (d : Nat) (x1 x2 : Int32) (g : Nat → Nat → Int32) : q_sem (d + 1) mX0_choose 12 [.ref 91, .int x1, .int x2] [] (q_K o g) = (q_sem d mX7_size 0 [.ref 92] [] (q_K o g)).bind (fun r => q_sem (d + 1) mX0_choose 21 [.ref 91, .int x1, .int x2] (r.1.toList ++ [.int 1, .int x2]) r.2) := by
  refine (q_blk (Y := mX0_choose) (q_dcC dX0_choose_12 (q_dcC dX0_choose_13 (q_dcC dX0_choose_14 q_dcN))) (show _ = some (15, [.ref 91, .int x1, .int x2], [.ref 91, .int 1, .int x2]) from rfl)).trans ?_
  refine (k_getr (Y := mX0_choose) dX0_choose_15 rfl rfl ⟨by decide, rfl⟩ (by decide) rfl).trans ?_
  exact K_calV (d := d) (Y := mX0_choose) (Z := mX7_size) (vs := []) (rest := [.int 1, .int x2]) (la := [.ref 92]) dX0_choose_18 rfl rfl rfl rfl ⟨by decide, rfl⟩ (Nat.le_of_ble_eq_true rfl) rfl (Nat.le_of_ble_eq_true rfl)
theorem B_X0_choose_21 {o : q_H} (d : Nat) (x1 x2 y0 y1 y2 : Int32) (g : Nat → Nat → Int32) : q_sem (d + 1) mX0_choose 21 [.ref 91, .int x1, .int x2] [.int y0, .int y1, .int y2] (q_K o g) = (if (y1 <<< ((y0 : Int32) &&& 31)) ≤ y2 then some (none, q_K o g) else (q_sem d mJ6_bitCount_0f7a4 0 [.int x2] [] (q_K o g)).bind (fun r => q_sem (d + 1) mX0_choose 29 [.ref 91, .int x1, .int x2] (r.1.toList ++ []) r.2)) := by
  refine (q_blk (Y := mX0_choose) (q_dcC dX0_choose_21 (q_dcC dX0_choose_22 q_dcN)) (show _ = some ((if q_cc .ge y2 (y1 <<< ((y0 : Int32) &&& 31)) = true then 65 else 25), [.ref 91, .int x1, .int x2], []) from rfl)).trans ?_
  by_cases c1 : (y1 <<< ((y0 : Int32) &&& 31)) ≤ y2
  · rw [if_pos (show q_cc .ge y2 (y1 <<< ((y0 : Int32) &&& 31)) = true from decide_eq_true c1)]
    refine Eq.trans ?_ (if_pos c1).symm
    exact k_vret (Y := mX0_choose) dX0_choose_65 rfl
  · rw [if_neg (show ¬ q_cc .ge y2 (y1 <<< ((y0 : Int32) &&& 31)) = true from fun z => c1 (of_decide_eq_true z))]
    refine Eq.trans ?_ (if_neg c1).symm
    refine (q_blk (Y := mX0_choose) (q_dcC dX0_choose_25 q_dcN) (show _ = some (26, [.ref 91, .int x1, .int x2], [.int x2]) from rfl)).trans ?_
    exact K_calS (d := d) (Y := mX0_choose) (Z := mJ6_bitCount_0f7a4) (vs := [.int x2]) (rest := []) (la := [.int x2]) dX0_choose_26 rfl rfl rfl rfl (Nat.le_of_ble_eq_true rfl) rfl (Nat.le_of_ble_eq_true rfl)
theorem B_X0_choose_29 {o : q_H} (d : Nat) (x1 x2 y0 : Int32) (g : Nat → Nat → Int32) : q_sem (d + 1) mX0_choose 29 [.ref 91, .int x1, .int x2] [.int y0] (q_K o g) = (if y0 = x1 then (q_sem d mX0_worst 0 [.ref 91, .int x2, .retAddr 0, .retAddr 0] [] (q_K o g)).bind (fun r => q_sem (d + 1) mX0_choose 38 [.ref 91, .int x1, .int x2] (r.1.toList ++ []) r.2) else q_sem (d + 1) mX0_choose 12 [.ref 91, .int x1, .int (x2 + 1)] [] (q_K o g)) := by
  refine (q_blk (Y := mX0_choose) (q_dcC dX0_choose_29 (q_dcC dX0_choose_30 q_dcN)) (show _ = some ((if q_cc .ne y0 x1 = true then 59 else 33), [.ref 91, .int x1, .int x2], []) from rfl)).trans ?_
  by_cases c1 : y0 = x1
  · rw [if_neg (show ¬ q_cc .ne y0 x1 = true from fun z => (of_decide_eq_true z : ¬ y0 = x1) c1)]
    refine Eq.trans ?_ (if_pos c1).symm
    refine (q_blk (Y := mX0_choose) (q_dcC dX0_choose_33 (q_dcC dX0_choose_34 q_dcN)) (show _ = some (35, [.ref 91, .int x1, .int x2], [.int x2, .ref 91]) from rfl)).trans ?_
    exact K_calV (d := d) (Y := mX0_choose) (Z := mX0_worst) (vs := [.int x2]) (rest := []) (la := [.ref 91, .int x2, .retAddr 0, .retAddr 0]) dX0_choose_35 rfl rfl rfl rfl ⟨by decide, rfl⟩ (Nat.le_of_ble_eq_true rfl) rfl (Nat.le_of_ble_eq_true rfl)
  · rw [if_pos (show q_cc .ne y0 x1 = true from decide_eq_true c1)]
    refine Eq.trans ?_ (if_neg c1).symm
    refine (q_blk (Y := mX0_choose) (q_dcC dX0_choose_59 (q_dcC dX0_choose_62 q_dcN)) (show _ = some (12, [.ref 91, .int x1, .int (x2 + 1)], []) from rfl)).trans ?_
    rfl
theorem B_X0_choose_38 {o : q_H} (d : Nat) (x1 x2 y0 : Int32) (g : Nat → Nat → Int32) : q_sem (d + 1) mX0_choose 38 [.ref 91, .int x1, .int x2] [.int y0] (q_K o g) = (if y0 ≤ (g 91 1) then q_sem (d + 1) mX0_choose 12 [.ref 91, .int x1, .int (x2 + 1)] [] (q_K o g) else (q_sem d mX0_worst 0 [.ref 91, .int x2, .retAddr 0, .retAddr 0] [] (q_K o g)).bind (fun r => q_sem (d + 1) mX0_choose 51 [.ref 91, .int x1, .int x2] (r.1.toList ++ [.ref 91]) r.2)) := by
  refine (q_blk (Y := mX0_choose) (q_dcC dX0_choose_38 q_dcN) (show _ = some (39, [.ref 91, .int x1, .int x2], [.ref 91, .int y0]) from rfl)).trans ?_
  refine (k_geti (Y := mX0_choose) dX0_choose_39 rfl rfl ⟨by decide, rfl⟩ (by decide) rfl).trans ?_
  refine (q_blk (Y := mX0_choose) (q_dcC dX0_choose_42 q_dcN) (show _ = some ((if q_cc .le y0 (g 91 1) = true then 59 else 45), [.ref 91, .int x1, .int x2], []) from rfl)).trans ?_
  by_cases c1 : y0 ≤ (g 91 1)
  · rw [if_pos (show q_cc .le y0 (g 91 1) = true from decide_eq_true c1)]
    refine Eq.trans ?_ (if_pos c1).symm
    refine (q_blk (Y := mX0_choose) (q_dcC dX0_choose_59 (q_dcC dX0_choose_62 q_dcN)) (show _ = some (12, [.ref 91, .int x1, .int (x2 + 1)], []) from rfl)).trans ?_
    rfl
  · rw [if_neg (show ¬ q_cc .le y0 (g 91 1) = true from fun z => c1 (of_decide_eq_true z))]
    refine Eq.trans ?_ (if_neg c1).symm
    refine (q_blk (Y := mX0_choose) (q_dcC dX0_choose_45 (q_dcC dX0_choose_46 (q_dcC dX0_choose_47 q_dcN))) (show _ = some (48, [.ref 91, .int x1, .int x2], [.int x2, .ref 91, .ref 91]) from rfl)).trans ?_
    exact K_calV (d := d) (Y := mX0_choose) (Z := mX0_worst) (vs := [.int x2]) (rest := [.ref 91]) (la := [.ref 91, .int x2, .retAddr 0, .retAddr 0]) dX0_choose_48 rfl rfl rfl rfl ⟨by decide, rfl⟩ (Nat.le_of_ble_eq_true rfl) rfl (Nat.le_of_ble_eq_true rfl)
theorem B_X0_choose_51 {o : q_H} (d : Nat) (x1 x2 y0 : Int32) (g : Nat → Nat → Int32) : q_sem (d) mX0_choose 51 [.ref 91, .int x1, .int x2] [.int y0, .ref 91] (q_K o g) = q_sem (d) mX0_choose 12 [.ref 91, .int x1, .int (x2 + 1)] [] (q_K o (q_up (q_up g 91 1 y0) 91 2 x2)) := by
  refine (k_puti (Y := mX0_choose) dX0_choose_51 rfl ⟨by decide, rfl⟩ (by decide) rfl rfl rfl rfl).trans ?_
  refine (q_blk (Y := mX0_choose) (q_dcC dX0_choose_54 (q_dcC dX0_choose_55 q_dcN)) (show _ = some (56, [.ref 91, .int x1, .int x2], [.int x2, .ref 91]) from rfl)).trans ?_
  refine (k_puti (Y := mX0_choose) dX0_choose_56 rfl ⟨by decide, rfl⟩ (by decide) rfl rfl rfl rfl).trans ?_
  refine (q_blk (Y := mX0_choose) (q_dcC dX0_choose_59 (q_dcC dX0_choose_62 q_dcN)) (show _ = some (12, [.ref 91, .int x1, .int (x2 + 1)], []) from rfl)).trans ?_
  rfl
theorem B_X0_worst_0 {o : q_H} (d : Nat) (x1 : Int32) (g : Nat → Nat → Int32) : q_sem (d) mX0_worst 0 [.ref 91, .int x1, .retAddr 0, .retAddr 0] [] (q_K o g) = q_sem (d) mX0_worst 5 [.ref 91, .int x1, .int 24, .int 0] [] (q_K o g) := by
  refine (q_blk (Y := mX0_worst) (q_dcC dX0_worst_0 (q_dcC dX0_worst_2 (q_dcC dX0_worst_3 (q_dcC dX0_worst_4 q_dcN)))) (show _ = some (5, [.ref 91, .int x1, .int 24, .int 0], []) from rfl)).trans ?_
  rfl
theorem B_X0_worst_5 {o : q_H} (d : Nat) (x1 x2 x3 : Int32) (g : Nat → Nat → Int32) : q_sem (d + 1) mX0_worst 5 [.ref 91, .int x1, .int x2, .int x3] [] (q_K o g) = (q_sem d mX7_size 0 [.ref 92] [] (q_K o g)).bind (fun r => q_sem (d + 1) mX0_worst 13 [.ref 91, .int x1, .int x2, .int x3] (r.1.toList ++ [.int x3]) r.2) := by
  refine (q_blk (Y := mX0_worst) (q_dcC dX0_worst_5 (q_dcC dX0_worst_6 q_dcN)) (show _ = some (7, [.ref 91, .int x1, .int x2, .int x3], [.ref 91, .int x3]) from rfl)).trans ?_
  refine (k_getr (Y := mX0_worst) dX0_worst_7 rfl rfl ⟨by decide, rfl⟩ (by decide) rfl).trans ?_
  exact K_calV (d := d) (Y := mX0_worst) (Z := mX7_size) (vs := []) (rest := [.int x3]) (la := [.ref 92]) dX0_worst_10 rfl rfl rfl rfl ⟨by decide, rfl⟩ (Nat.le_of_ble_eq_true rfl) rfl (Nat.le_of_ble_eq_true rfl)
theorem B_X0_worst_13 {o : q_H} (d : Nat) (x1 x2 x3 y0 y1 : Int32) (g : Nat → Nat → Int32) : q_sem (d + 1) mX0_worst 13 [.ref 91, .int x1, .int x2, .int x3] [.int y0, .int y1] (q_K o g) = (if y0 ≤ y1 then some (some (.int x2), q_K o g) else (if ((x1 >>> ((x3 : Int32) &&& 31)) &&& 1) = 0 then q_sem (d + 1) mX0_worst 5 [.ref 91, .int x1, .int x2, .int (x3 + 1)] [] (q_K o g) else (q_sem d mX0_together 0 [.ref 91, .int (x1 &&& ((1 <<< ((x3 : Int32) &&& 31)) ^^^ (-1))), .retAddr 0, .retAddr 0] [] (q_K o g)).bind (fun r => q_sem (d + 1) mX0_worst 36 [.ref 91, .int x1, .int x2, .int x3] (r.1.toList ++ [.int x2]) r.2))) := by
  refine (q_blk (Y := mX0_worst) (q_dcC dX0_worst_13 q_dcN) (show _ = some ((if q_cc .ge y1 y0 = true then 49 else 16), [.ref 91, .int x1, .int x2, .int x3], []) from rfl)).trans ?_
  by_cases c1 : y0 ≤ y1
  · rw [if_pos (show q_cc .ge y1 y0 = true from decide_eq_true c1)]
    refine Eq.trans ?_ (if_pos c1).symm
    refine (q_blk (Y := mX0_worst) (q_dcC dX0_worst_49 q_dcN) (show _ = some (50, [.ref 91, .int x1, .int x2, .int x3], [.int x2]) from rfl)).trans ?_
    exact k_iret (Y := mX0_worst) dX0_worst_50 rfl
  · rw [if_neg (show ¬ q_cc .ge y1 y0 = true from fun z => c1 (of_decide_eq_true z))]
    refine Eq.trans ?_ (if_neg c1).symm
    refine (q_blk (Y := mX0_worst) (q_dcC dX0_worst_16 (q_dcC dX0_worst_17 (q_dcC dX0_worst_18 (q_dcC dX0_worst_19 (q_dcC dX0_worst_20 (q_dcC dX0_worst_21 q_dcN)))))) (show _ = some ((if q_cc .eq ((x1 >>> ((x3 : Int32) &&& 31)) &&& 1) 0 = true then 43 else 24), [.ref 91, .int x1, .int x2, .int x3], []) from rfl)).trans ?_
    by_cases c2 : ((x1 >>> ((x3 : Int32) &&& 31)) &&& 1) = 0
    · rw [if_pos (show q_cc .eq ((x1 >>> ((x3 : Int32) &&& 31)) &&& 1) 0 = true from decide_eq_true c2)]
      refine Eq.trans ?_ (if_pos c2).symm
      refine (q_blk (Y := mX0_worst) (q_dcC dX0_worst_43 (q_dcC dX0_worst_46 q_dcN)) (show _ = some (5, [.ref 91, .int x1, .int x2, .int (x3 + 1)], []) from rfl)).trans ?_
      rfl
    · rw [if_neg (show ¬ q_cc .eq ((x1 >>> ((x3 : Int32) &&& 31)) &&& 1) 0 = true from fun z => c2 (of_decide_eq_true z))]
      refine Eq.trans ?_ (if_neg c2).symm
      refine (q_blk (Y := mX0_worst) (q_dcC dX0_worst_24 (q_dcC dX0_worst_25 (q_dcC dX0_worst_26 (q_dcC dX0_worst_27 (q_dcC dX0_worst_28 (q_dcC dX0_worst_29 (q_dcC dX0_worst_30 (q_dcC dX0_worst_31 (q_dcC dX0_worst_32 q_dcN))))))))) (show _ = some (33, [.ref 91, .int x1, .int x2, .int x3], [.int (x1 &&& ((1 <<< ((x3 : Int32) &&& 31)) ^^^ (-1))), .ref 91, .int x2]) from rfl)).trans ?_
      exact K_calV (d := d) (Y := mX0_worst) (Z := mX0_together) (vs := [.int (x1 &&& ((1 <<< ((x3 : Int32) &&& 31)) ^^^ (-1)))]) (rest := [.int x2]) (la := [.ref 91, .int (x1 &&& ((1 <<< ((x3 : Int32) &&& 31)) ^^^ (-1))), .retAddr 0, .retAddr 0]) dX0_worst_33 rfl rfl rfl rfl ⟨by decide, rfl⟩ (Nat.le_of_ble_eq_true rfl) rfl (Nat.le_of_ble_eq_true rfl)
theorem B_X0_worst_36 {o : q_H} (d : Nat) (x1 x2 x3 y0 y1 : Int32) (g : Nat → Nat → Int32) : q_sem (d + 1) mX0_worst 36 [.ref 91, .int x1, .int x2, .int x3] [.int y0, .int y1] (q_K o g) = (q_sem d mJ6_bitCount_0f7a4 0 [.int y0] [] (q_K o g)).bind (fun r => q_sem (d + 1) mX0_worst 39 [.ref 91, .int x1, .int x2, .int x3] (r.1.toList ++ [.int y1]) r.2) := by
  exact K_calS (d := d) (Y := mX0_worst) (Z := mJ6_bitCount_0f7a4) (vs := [.int y0]) (rest := [.int y1]) (la := [.int y0]) dX0_worst_36 rfl rfl rfl rfl (Nat.le_of_ble_eq_true rfl) rfl (Nat.le_of_ble_eq_true rfl)
theorem B_X0_worst_39 {o : q_H} (d : Nat) (x1 x2 x3 y0 y1 : Int32) (g : Nat → Nat → Int32) : q_sem (d) mX0_worst 39 [.ref 91, .int x1, .int x2, .int x3] [.int y0, .int y1] (q_K o g) = q_sem (d) mX0_worst 5 [.ref 91, .int x1, .int (if y0 < y1 then y0 else y1), .int (x3 + 1)] [] (q_K o g) := by
  refine (k_min (Y := mX0_worst) dX0_worst_39 rfl rfl (by decide) (by decide) (by decide) (Nat.le_of_ble_eq_true rfl)).trans ?_
  refine (q_blk (Y := mX0_worst) (q_dcC dX0_worst_42 (q_dcC dX0_worst_43 (q_dcC dX0_worst_46 q_dcN))) (show _ = some (5, [.ref 91, .int x1, .int (if y0 < y1 then y0 else y1), .int (x3 + 1)], []) from rfl)).trans ?_
  rfl
theorem B_X0_together_0 {o : q_H} (d : Nat) (x1 : Int32) (g : Nat → Nat → Int32) : q_sem (d) mX0_together 0 [.ref 91, .int x1, .retAddr 0, .retAddr 0] [] (q_K o g) = q_sem (d) mX0_together 4 [.ref 91, .int x1, .int 0, .int 0] [] (q_K o g) := by
  refine (q_blk (Y := mX0_together) (q_dcC dX0_together_0 (q_dcC dX0_together_1 (q_dcC dX0_together_2 (q_dcC dX0_together_3 q_dcN)))) (show _ = some (4, [.ref 91, .int x1, .int 0, .int 0], []) from rfl)).trans ?_
  rfl
theorem B_X0_together_4 {o : q_H} (d : Nat) (x1 x2 x3 : Int32) (g : Nat → Nat → Int32) : q_sem (d + 1) mX0_together 4 [.ref 91, .int x1, .int x2, .int x3] [] (q_K o g) = (q_sem d mX7_size 0 [.ref 92] [] (q_K o g)).bind (fun r => q_sem (d + 1) mX0_together 12 [.ref 91, .int x1, .int x2, .int x3] (r.1.toList ++ [.int x3]) r.2) := by
  refine (q_blk (Y := mX0_together) (q_dcC dX0_together_4 (q_dcC dX0_together_5 q_dcN)) (show _ = some (6, [.ref 91, .int x1, .int x2, .int x3], [.ref 91, .int x3]) from rfl)).trans ?_
  refine (k_getr (Y := mX0_together) dX0_together_6 rfl rfl ⟨by decide, rfl⟩ (by decide) rfl).trans ?_
  exact K_calV (d := d) (Y := mX0_together) (Z := mX7_size) (vs := []) (rest := [.int x3]) (la := [.ref 92]) dX0_together_9 rfl rfl rfl rfl ⟨by decide, rfl⟩ (Nat.le_of_ble_eq_true rfl) rfl (Nat.le_of_ble_eq_true rfl)
theorem B_X0_together_12 {o : q_H} (d : Nat) (x1 x2 x3 y0 y1 : Int32) (g : Nat → Nat → Int32) : q_sem (d + 1) mX0_together 12 [.ref 91, .int x1, .int x2, .int x3] [.int y0, .int y1] (q_K o g) = (if y0 ≤ y1 then some (some (.int x2), q_K o g) else (if ((x1 >>> ((x3 : Int32) &&& 31)) &&& 1) = 0 then q_sem (d + 1) mX0_together 4 [.ref 91, .int x1, .int (x2 ||| 0), .int (x3 + 1)] [] (q_K o g) else (q_sem d mX7_get 0 [.ref 92, .int x3, .int 0] [] (q_K o g)).bind (fun r => q_sem (d + 1) mX0_together 33 [.ref 91, .int x1, .int x2, .int x3] (r.1.toList ++ [.int x2]) r.2))) := by
  refine (q_blk (Y := mX0_together) (q_dcC dX0_together_12 q_dcN) (show _ = some ((if q_cc .ge y1 y0 = true then 45 else 15), [.ref 91, .int x1, .int x2, .int x3], []) from rfl)).trans ?_
  by_cases c1 : y0 ≤ y1
  · rw [if_pos (show q_cc .ge y1 y0 = true from decide_eq_true c1)]
    refine Eq.trans ?_ (if_pos c1).symm
    refine (q_blk (Y := mX0_together) (q_dcC dX0_together_45 q_dcN) (show _ = some (46, [.ref 91, .int x1, .int x2, .int x3], [.int x2]) from rfl)).trans ?_
    exact k_iret (Y := mX0_together) dX0_together_46 rfl
  · rw [if_neg (show ¬ q_cc .ge y1 y0 = true from fun z => c1 (of_decide_eq_true z))]
    refine Eq.trans ?_ (if_neg c1).symm
    refine (q_blk (Y := mX0_together) (q_dcC dX0_together_15 (q_dcC dX0_together_16 (q_dcC dX0_together_17 (q_dcC dX0_together_18 (q_dcC dX0_together_19 (q_dcC dX0_together_20 (q_dcC dX0_together_21 q_dcN))))))) (show _ = some ((if q_cc .eq ((x1 >>> ((x3 : Int32) &&& 31)) &&& 1) 0 = true then 36 else 24), [.ref 91, .int x1, .int x2, .int x3], [.int x2]) from rfl)).trans ?_
    by_cases c2 : ((x1 >>> ((x3 : Int32) &&& 31)) &&& 1) = 0
    · rw [if_pos (show q_cc .eq ((x1 >>> ((x3 : Int32) &&& 31)) &&& 1) 0 = true from decide_eq_true c2)]
      refine Eq.trans ?_ (if_pos c2).symm
      refine (q_blk (Y := mX0_together) (q_dcC dX0_together_36 (q_dcC dX0_together_37 (q_dcC dX0_together_38 (q_dcC dX0_together_39 (q_dcC dX0_together_42 q_dcN))))) (show _ = some (4, [.ref 91, .int x1, .int (x2 ||| 0), .int (x3 + 1)], []) from rfl)).trans ?_
      rfl
    · rw [if_neg (show ¬ q_cc .eq ((x1 >>> ((x3 : Int32) &&& 31)) &&& 1) 0 = true from fun z => c2 (of_decide_eq_true z))]
      refine Eq.trans ?_ (if_neg c2).symm
      refine (q_blk (Y := mX0_together) (q_dcC dX0_together_24 q_dcN) (show _ = some (25, [.ref 91, .int x1, .int x2, .int x3], [.ref 91, .int x2]) from rfl)).trans ?_
      refine (k_getr (Y := mX0_together) dX0_together_25 rfl rfl ⟨by decide, rfl⟩ (by decide) rfl).trans ?_
      refine (q_blk (Y := mX0_together) (q_dcC dX0_together_28 (q_dcC dX0_together_29 q_dcN)) (show _ = some (30, [.ref 91, .int x1, .int x2, .int x3], [.int 0, .int x3, .ref 92, .int x2]) from rfl)).trans ?_
      exact K_calV (d := d) (Y := mX0_together) (Z := mX7_get) (vs := [.int x3, .int 0]) (rest := [.int x2]) (la := [.ref 92, .int x3, .int 0]) dX0_together_30 rfl rfl rfl rfl ⟨by decide, rfl⟩ (Nat.le_of_ble_eq_true rfl) rfl (Nat.le_of_ble_eq_true rfl)
theorem B_X0_together_33 {o : q_H} (d : Nat) (x1 x2 x3 y0 y1 : Int32) (g : Nat → Nat → Int32) : q_sem (d) mX0_together 33 [.ref 91, .int x1, .int x2, .int x3] [.int y0, .int y1] (q_K o g) = q_sem (d) mX0_together 4 [.ref 91, .int x1, .int (y1 ||| y0), .int (x3 + 1)] [] (q_K o g) := by
  refine (q_blk (Y := mX0_together) (q_dcC dX0_together_33 q_dcN) (show _ = some (37, [.ref 91, .int x1, .int x2, .int x3], [.int y0, .int y1]) from rfl)).trans ?_
  refine (q_blk (Y := mX0_together) (q_dcC dX0_together_37 (q_dcC dX0_together_38 (q_dcC dX0_together_39 (q_dcC dX0_together_42 q_dcN)))) (show _ = some (4, [.ref 91, .int x1, .int (y1 ||| y0), .int (x3 + 1)], []) from rfl)).trans ?_
  rfl
theorem B_X0_best_0 {o : q_H} (d : Nat) (g : Nat → Nat → Int32) : q_sem (d) mX0_best 0 [.ref 91] [] (q_K o g) = some (some (.int (g 91 1)), q_K o g) := by
  refine (q_blk (Y := mX0_best) (q_dcC dX0_best_0 q_dcN) (show _ = some (1, [.ref 91], [.ref 91]) from rfl)).trans ?_
  refine (k_geti (Y := mX0_best) dX0_best_1 rfl rfl ⟨by decide, rfl⟩ (by decide) rfl).trans ?_
  exact k_iret (Y := mX0_best) dX0_best_4 rfl
theorem B_X0_chosen_0 {o : q_H} (d : Nat) (g : Nat → Nat → Int32) : q_sem (d) mX0_chosen 0 [.ref 91] [] (q_K o g) = some (some (.int (g 91 2)), q_K o g) := by
  refine (q_blk (Y := mX0_chosen) (q_dcC dX0_chosen_0 q_dcN) (show _ = some (1, [.ref 91], [.ref 91]) from rfl)).trans ?_
  refine (k_geti (Y := mX0_chosen) dX0_chosen_1 rfl rfl ⟨by decide, rfl⟩ (by decide) rfl).trans ?_
  exact k_iret (Y := mX0_chosen) dX0_chosen_4 rfl
theorem B_X1_begin_0 {o : q_H} (d : Nat) (g : Nat → Nat → Int32) : q_sem (d + 1) mX1_begin 0 [.ref 72, .retAddr 0, .retAddr 0] [] (q_K o g) = (q_sem d mX7_clear 0 [.ref 73] [] (q_K o g)).bind (fun r => q_sem (d + 1) mX1_begin 7 [.ref 72, .retAddr 0, .retAddr 0] (r.1.toList ++ []) r.2) := by
  refine (q_blk (Y := mX1_begin) (q_dcC dX1_begin_0 q_dcN) (show _ = some (1, [.ref 72, .retAddr 0, .retAddr 0], [.ref 72]) from rfl)).trans ?_
  refine (k_getr (Y := mX1_begin) dX1_begin_1 rfl rfl ⟨by decide, rfl⟩ (by decide) rfl).trans ?_
  exact K_calV (d := d) (Y := mX1_begin) (Z := mX7_clear) (vs := []) (rest := []) (la := [.ref 73]) dX1_begin_4 rfl rfl rfl rfl ⟨by decide, rfl⟩ (Nat.le_of_ble_eq_true rfl) rfl (Nat.le_of_ble_eq_true rfl)
theorem B_X1_begin_7 {o : q_H} (d : Nat) (g : Nat → Nat → Int32) : q_sem (d + 1) mX1_begin 7 [.ref 72, .retAddr 0, .retAddr 0] [] (q_K o g) = (q_sem d mX7_clear 0 [.ref 75] [] (q_K o g)).bind (fun r => q_sem (d + 1) mX1_begin 14 [.ref 72, .retAddr 0, .retAddr 0] (r.1.toList ++ []) r.2) := by
  refine (q_blk (Y := mX1_begin) (q_dcC dX1_begin_7 q_dcN) (show _ = some (8, [.ref 72, .retAddr 0, .retAddr 0], [.ref 72]) from rfl)).trans ?_
  refine (k_getr (Y := mX1_begin) dX1_begin_8 rfl rfl ⟨by decide, rfl⟩ (by decide) rfl).trans ?_
  exact K_calV (d := d) (Y := mX1_begin) (Z := mX7_clear) (vs := []) (rest := []) (la := [.ref 75]) dX1_begin_11 rfl rfl rfl rfl ⟨by decide, rfl⟩ (Nat.le_of_ble_eq_true rfl) rfl (Nat.le_of_ble_eq_true rfl)
theorem B_X1_begin_14 {o : q_H} (d : Nat) (g : Nat → Nat → Int32) : q_sem (d + 1) mX1_begin 14 [.ref 72, .retAddr 0, .retAddr 0] [] (q_K o g) = (q_sem d mX7_clear 0 [.ref 77] [] (q_K o g)).bind (fun r => q_sem (d + 1) mX1_begin 21 [.ref 72, .retAddr 0, .retAddr 0] (r.1.toList ++ []) r.2) := by
  refine (q_blk (Y := mX1_begin) (q_dcC dX1_begin_14 q_dcN) (show _ = some (15, [.ref 72, .retAddr 0, .retAddr 0], [.ref 72]) from rfl)).trans ?_
  refine (k_getr (Y := mX1_begin) dX1_begin_15 rfl rfl ⟨by decide, rfl⟩ (by decide) rfl).trans ?_
  exact K_calV (d := d) (Y := mX1_begin) (Z := mX7_clear) (vs := []) (rest := []) (la := [.ref 77]) dX1_begin_18 rfl rfl rfl rfl ⟨by decide, rfl⟩ (Nat.le_of_ble_eq_true rfl) rfl (Nat.le_of_ble_eq_true rfl)
theorem B_X1_begin_21 {o : q_H} (d : Nat) (g : Nat → Nat → Int32) : q_sem (d) mX1_begin 21 [.ref 72, .retAddr 0, .retAddr 0] [] (q_K o g) = q_sem (d) mX1_begin 23 [.ref 72, .int 0, .retAddr 0] [] (q_K o g) := by
  refine (q_blk (Y := mX1_begin) (q_dcC dX1_begin_21 (q_dcC dX1_begin_22 q_dcN)) (show _ = some (23, [.ref 72, .int 0, .retAddr 0], []) from rfl)).trans ?_
  rfl
theorem B_X1_begin_23 {o : q_H} (d : Nat) (x1 : Int32) (g : Nat → Nat → Int32) : q_sem (d + 1) mX1_begin 23 [.ref 72, .int x1, .retAddr 0] [] (q_K o g) = (if 9 ≤ x1 then some (none, q_K o g) else (q_sem d mX7_add 0 [.ref 77, .int (-1), .retAddr 0] [] (q_K o g)).bind (fun r => q_sem (d + 1) mX1_begin 37 [.ref 72, .int x1, .retAddr 0] (r.1.toList ++ []) r.2)) := by
  refine (q_blk (Y := mX1_begin) (q_dcC dX1_begin_23 (q_dcC dX1_begin_24 (q_dcC dX1_begin_26 q_dcN))) (show _ = some ((if q_cc .ge x1 9 = true then 68 else 29), [.ref 72, .int x1, .retAddr 0], []) from rfl)).trans ?_
  by_cases c1 : 9 ≤ x1
  · rw [if_pos (show q_cc .ge x1 9 = true from decide_eq_true c1)]
    refine Eq.trans ?_ (if_pos c1).symm
    exact k_vret (Y := mX1_begin) dX1_begin_68 rfl
  · rw [if_neg (show ¬ q_cc .ge x1 9 = true from fun z => c1 (of_decide_eq_true z))]
    refine Eq.trans ?_ (if_neg c1).symm
    refine (q_blk (Y := mX1_begin) (q_dcC dX1_begin_29 q_dcN) (show _ = some (30, [.ref 72, .int x1, .retAddr 0], [.ref 72]) from rfl)).trans ?_
    refine (k_getr (Y := mX1_begin) dX1_begin_30 rfl rfl ⟨by decide, rfl⟩ (by decide) rfl).trans ?_
    refine (q_blk (Y := mX1_begin) (q_dcC dX1_begin_33 q_dcN) (show _ = some (34, [.ref 72, .int x1, .retAddr 0], [.int (-1), .ref 77]) from rfl)).trans ?_
    exact K_calV (d := d) (Y := mX1_begin) (Z := mX7_add) (vs := [.int (-1)]) (rest := []) (la := [.ref 77, .int (-1), .retAddr 0]) dX1_begin_34 rfl rfl rfl rfl ⟨by decide, rfl⟩ (Nat.le_of_ble_eq_true rfl) rfl (Nat.le_of_ble_eq_true rfl)
theorem B_X1_begin_37 {o : q_H} (d : Nat) (x1 y0 : Int32) (g : Nat → Nat → Int32) : q_sem (d) mX1_begin 37 [.ref 72, .int x1, .retAddr 0] [.int y0] (q_K o g) = q_sem (d) mX1_begin 40 [.ref 72, .int x1, .int 0] [] (q_K o g) := by
  refine (q_blk (Y := mX1_begin) (q_dcC dX1_begin_37 (q_dcC dX1_begin_38 (q_dcC dX1_begin_39 q_dcN))) (show _ = some (40, [.ref 72, .int x1, .int 0], []) from rfl)).trans ?_
  rfl
theorem B_X1_begin_40 {o : q_H} (d : Nat) (x1 x2 : Int32) (g : Nat → Nat → Int32) : q_sem (d + 1) mX1_begin 40 [.ref 72, .int x1, .int x2] [] (q_K o g) = (if 9 ≤ x2 then q_sem (d + 1) mX1_begin 23 [.ref 72, .int (x1 + 1), .int x2] [] (q_K o g) else (q_sem d mX7_write 0 [.ref 77, .int x1, .int x2, .int (-1)] [] (q_K o g)).bind (fun r => q_sem (d + 1) mX1_begin 56 [.ref 72, .int x1, .int x2] (r.1.toList ++ []) r.2)) := by
  refine (q_blk (Y := mX1_begin) (q_dcC dX1_begin_40 (q_dcC dX1_begin_41 (q_dcC dX1_begin_43 q_dcN))) (show _ = some ((if q_cc .ge x2 9 = true then 62 else 46), [.ref 72, .int x1, .int x2], []) from rfl)).trans ?_
  by_cases c1 : 9 ≤ x2
  · rw [if_pos (show q_cc .ge x2 9 = true from decide_eq_true c1)]
    refine Eq.trans ?_ (if_pos c1).symm
    refine (q_blk (Y := mX1_begin) (q_dcC dX1_begin_62 (q_dcC dX1_begin_65 q_dcN)) (show _ = some (23, [.ref 72, .int (x1 + 1), .int x2], []) from rfl)).trans ?_
    rfl
  · rw [if_neg (show ¬ q_cc .ge x2 9 = true from fun z => c1 (of_decide_eq_true z))]
    refine Eq.trans ?_ (if_neg c1).symm
    refine (q_blk (Y := mX1_begin) (q_dcC dX1_begin_46 q_dcN) (show _ = some (47, [.ref 72, .int x1, .int x2], [.ref 72]) from rfl)).trans ?_
    refine (k_getr (Y := mX1_begin) dX1_begin_47 rfl rfl ⟨by decide, rfl⟩ (by decide) rfl).trans ?_
    refine (q_blk (Y := mX1_begin) (q_dcC dX1_begin_50 (q_dcC dX1_begin_51 (q_dcC dX1_begin_52 q_dcN))) (show _ = some (53, [.ref 72, .int x1, .int x2], [.int (-1), .int x2, .int x1, .ref 77]) from rfl)).trans ?_
    exact K_calV (d := d) (Y := mX1_begin) (Z := mX7_write) (vs := [.int x1, .int x2, .int (-1)]) (rest := []) (la := [.ref 77, .int x1, .int x2, .int (-1)]) dX1_begin_53 rfl rfl rfl rfl ⟨by decide, rfl⟩ (Nat.le_of_ble_eq_true rfl) rfl (Nat.le_of_ble_eq_true rfl)
theorem B_X1_begin_23a {o : q_H} (d : Nat) (x1 x2 : Int32) (g : Nat → Nat → Int32) : q_sem (d + 1) mX1_begin 23 [.ref 72, .int x1, .int x2] [] (q_K o g) = (if 9 ≤ x1 then some (none, q_K o g) else (q_sem d mX7_add 0 [.ref 77, .int (-1), .retAddr 0] [] (q_K o g)).bind (fun r => q_sem (d + 1) mX1_begin 37 [.ref 72, .int x1, .int x2] (r.1.toList ++ []) r.2)) := by
  refine (q_blk (Y := mX1_begin) (q_dcC dX1_begin_23 (q_dcC dX1_begin_24 (q_dcC dX1_begin_26 q_dcN))) (show _ = some ((if q_cc .ge x1 9 = true then 68 else 29), [.ref 72, .int x1, .int x2], []) from rfl)).trans ?_
  by_cases c1 : 9 ≤ x1
  · rw [if_pos (show q_cc .ge x1 9 = true from decide_eq_true c1)]
    refine Eq.trans ?_ (if_pos c1).symm
    exact k_vret (Y := mX1_begin) dX1_begin_68 rfl
  · rw [if_neg (show ¬ q_cc .ge x1 9 = true from fun z => c1 (of_decide_eq_true z))]
    refine Eq.trans ?_ (if_neg c1).symm
    refine (q_blk (Y := mX1_begin) (q_dcC dX1_begin_29 q_dcN) (show _ = some (30, [.ref 72, .int x1, .int x2], [.ref 72]) from rfl)).trans ?_
    refine (k_getr (Y := mX1_begin) dX1_begin_30 rfl rfl ⟨by decide, rfl⟩ (by decide) rfl).trans ?_
    refine (q_blk (Y := mX1_begin) (q_dcC dX1_begin_33 q_dcN) (show _ = some (34, [.ref 72, .int x1, .int x2], [.int (-1), .ref 77]) from rfl)).trans ?_
    exact K_calV (d := d) (Y := mX1_begin) (Z := mX7_add) (vs := [.int (-1)]) (rest := []) (la := [.ref 77, .int (-1), .retAddr 0]) dX1_begin_34 rfl rfl rfl rfl ⟨by decide, rfl⟩ (Nat.le_of_ble_eq_true rfl) rfl (Nat.le_of_ble_eq_true rfl)
theorem B_X1_begin_56 {o : q_H} (d : Nat) (x1 x2 : Int32) (g : Nat → Nat → Int32) : q_sem (d) mX1_begin 56 [.ref 72, .int x1, .int x2] [] (q_K o g) = q_sem (d) mX1_begin 40 [.ref 72, .int x1, .int (x2 + 1)] [] (q_K o g) := by
  refine (q_blk (Y := mX1_begin) (q_dcC dX1_begin_56 (q_dcC dX1_begin_59 q_dcN)) (show _ = some (40, [.ref 72, .int x1, .int (x2 + 1)], []) from rfl)).trans ?_
  rfl
theorem B_X1_begin_37a {o : q_H} (d : Nat) (x1 x2 y0 : Int32) (g : Nat → Nat → Int32) : q_sem (d) mX1_begin 37 [.ref 72, .int x1, .int x2] [.int y0] (q_K o g) = q_sem (d) mX1_begin 40 [.ref 72, .int x1, .int 0] [] (q_K o g) := by
  refine (q_blk (Y := mX1_begin) (q_dcC dX1_begin_37 (q_dcC dX1_begin_38 (q_dcC dX1_begin_39 q_dcN))) (show _ = some (40, [.ref 72, .int x1, .int 0], []) from rfl)).trans ?_
  rfl
theorem B_X1_allow_0 {o : q_H} (d : Nat) (x1 x2 x3 : Int32) (g : Nat → Nat → Int32) : q_sem (d + 1) mX1_allow 0 [.ref 72, .int x1, .int x2, .int x3] [] (q_K o g) = (q_sem d mX7_write 0 [.ref 77, .int x1, .int x2, .int x3] [] (q_K o g)).bind (fun r => q_sem (d + 1) mX1_allow 10 [.ref 72, .int x1, .int x2, .int x3] (r.1.toList ++ []) r.2) := by
  refine (q_blk (Y := mX1_allow) (q_dcC dX1_allow_0 q_dcN) (show _ = some (1, [.ref 72, .int x1, .int x2, .int x3], [.ref 72]) from rfl)).trans ?_
  refine (k_getr (Y := mX1_allow) dX1_allow_1 rfl rfl ⟨by decide, rfl⟩ (by decide) rfl).trans ?_
  refine (q_blk (Y := mX1_allow) (q_dcC dX1_allow_4 (q_dcC dX1_allow_5 (q_dcC dX1_allow_6 q_dcN))) (show _ = some (7, [.ref 72, .int x1, .int x2, .int x3], [.int x3, .int x2, .int x1, .ref 77]) from rfl)).trans ?_
  exact K_calV (d := d) (Y := mX1_allow) (Z := mX7_write) (vs := [.int x1, .int x2, .int x3]) (rest := []) (la := [.ref 77, .int x1, .int x2, .int x3]) dX1_allow_7 rfl rfl rfl rfl ⟨by decide, rfl⟩ (Nat.le_of_ble_eq_true rfl) rfl (Nat.le_of_ble_eq_true rfl)
theorem B_X1_allow_10 {o : q_H} (d : Nat) (x1 x2 x3 : Int32) (g : Nat → Nat → Int32) : q_sem (d) mX1_allow 10 [.ref 72, .int x1, .int x2, .int x3] [] (q_K o g) = some (none, q_K o g) := by
  exact k_vret (Y := mX1_allow) dX1_allow_10 rfl
theorem B_X1_solve_0 {o : q_H} (d : Nat) (x1 : Int32) (g : Nat → Nat → Int32) : q_sem (d + 1) mX1_solve 0 [.ref 72, .int x1, .retAddr 0, .retAddr 0, .retAddr 0] [] (q_K o g) = (q_sem d mX1_lookAhead 0 [.ref 72, .retAddr 0, .retAddr 0, .retAddr 0] [] (q_K o (q_up g 72 6 x1))).bind (fun r => q_sem (d + 1) mX1_solve 9 [.ref 72, .int x1, .retAddr 0, .retAddr 0, .retAddr 0] (r.1.toList ++ []) r.2) := by
  refine (q_blk (Y := mX1_solve) (q_dcC dX1_solve_0 (q_dcC dX1_solve_1 q_dcN)) (show _ = some (2, [.ref 72, .int x1, .retAddr 0, .retAddr 0, .retAddr 0], [.int x1, .ref 72]) from rfl)).trans ?_
  refine (k_puti (Y := mX1_solve) dX1_solve_2 rfl ⟨by decide, rfl⟩ (by decide) rfl rfl rfl rfl).trans ?_
  refine (q_blk (Y := mX1_solve) (q_dcC dX1_solve_5 q_dcN) (show _ = some (6, [.ref 72, .int x1, .retAddr 0, .retAddr 0, .retAddr 0], [.ref 72]) from rfl)).trans ?_
  exact K_calV (d := d) (Y := mX1_solve) (Z := mX1_lookAhead) (vs := []) (rest := []) (la := [.ref 72, .retAddr 0, .retAddr 0, .retAddr 0]) dX1_solve_6 rfl rfl rfl rfl ⟨by decide, rfl⟩ (Nat.le_of_ble_eq_true rfl) rfl (Nat.le_of_ble_eq_true rfl)
theorem B_X1_solve_9 {o : q_H} (d : Nat) (x1 : Int32) (g : Nat → Nat → Int32) : q_sem (d + 1) mX1_solve 9 [.ref 72, .int x1, .retAddr 0, .retAddr 0, .retAddr 0] [] (q_K o g) = (q_sem d mX7_size 0 [.ref 73] [] (q_K o g)).bind (fun r => q_sem (d + 1) mX1_solve 16 [.ref 72, .int x1, .retAddr 0, .retAddr 0, .retAddr 0] (r.1.toList ++ []) r.2) := by
  refine (q_blk (Y := mX1_solve) (q_dcC dX1_solve_9 q_dcN) (show _ = some (10, [.ref 72, .int x1, .retAddr 0, .retAddr 0, .retAddr 0], [.ref 72]) from rfl)).trans ?_
  refine (k_getr (Y := mX1_solve) dX1_solve_10 rfl rfl ⟨by decide, rfl⟩ (by decide) rfl).trans ?_
  exact K_calV (d := d) (Y := mX1_solve) (Z := mX7_size) (vs := []) (rest := []) (la := [.ref 73]) dX1_solve_13 rfl rfl rfl rfl ⟨by decide, rfl⟩ (Nat.le_of_ble_eq_true rfl) rfl (Nat.le_of_ble_eq_true rfl)
theorem B_X1_solve_16 {o : q_H} (d : Nat) (x1 y0 : Int32) (g : Nat → Nat → Int32) : q_sem (d) mX1_solve 16 [.ref 72, .int x1, .retAddr 0, .retAddr 0, .retAddr 0] [.int y0] (q_K o g) = q_sem (d) mX1_solve 17 [.ref 72, .int x1, .int y0, .retAddr 0, .retAddr 0] [] (q_K o g) := by
  refine (q_blk (Y := mX1_solve) (q_dcC dX1_solve_16 q_dcN) (show _ = some (17, [.ref 72, .int x1, .int y0, .retAddr 0, .retAddr 0], []) from rfl)).trans ?_
  rfl
theorem B_X1_solve_17 {o : q_H} (d : Nat) (x1 x2 : Int32) (g : Nat → Nat → Int32) : q_sem (d + 1) mX1_solve 17 [.ref 72, .int x1, .int x2, .retAddr 0, .retAddr 0] [] (q_K o g) = (if x2 < 0 then (q_sem d mX1_take 0 [.ref 72, .retAddr 0, .retAddr 0, .retAddr 0] [] (q_K o g)).bind (fun r => q_sem (d + 1) mX1_solve 94 [.ref 72, .int x1, .int x2, .retAddr 0, .retAddr 0] (r.1.toList ++ []) r.2) else (q_sem d mX7_get 0 [.ref 81, .int x2, .int 0] [] (q_K o g)).bind (fun r => q_sem (d + 1) mX1_solve 30 [.ref 72, .int x1, .int x2, .retAddr 0, .retAddr 0] (r.1.toList ++ []) r.2)) := by
  refine (q_blk (Y := mX1_solve) (q_dcC dX1_solve_17 (q_dcC dX1_solve_18 q_dcN)) (show _ = some ((if q_cc .lt x2 0 = true then 90 else 21), [.ref 72, .int x1, .int x2, .retAddr 0, .retAddr 0], []) from rfl)).trans ?_
  by_cases c1 : x2 < 0
  · rw [if_pos (show q_cc .lt x2 0 = true from decide_eq_true c1)]
    refine Eq.trans ?_ (if_pos c1).symm
    refine (q_blk (Y := mX1_solve) (q_dcC dX1_solve_90 q_dcN) (show _ = some (91, [.ref 72, .int x1, .int x2, .retAddr 0, .retAddr 0], [.ref 72]) from rfl)).trans ?_
    exact K_calV (d := d) (Y := mX1_solve) (Z := mX1_take) (vs := []) (rest := []) (la := [.ref 72, .retAddr 0, .retAddr 0, .retAddr 0]) dX1_solve_91 rfl rfl rfl rfl ⟨by decide, rfl⟩ (Nat.le_of_ble_eq_true rfl) rfl (Nat.le_of_ble_eq_true rfl)
  · rw [if_neg (show ¬ q_cc .lt x2 0 = true from fun z => c1 (of_decide_eq_true z))]
    refine Eq.trans ?_ (if_neg c1).symm
    refine (q_blk (Y := mX1_solve) (q_dcC dX1_solve_21 q_dcN) (show _ = some (22, [.ref 72, .int x1, .int x2, .retAddr 0, .retAddr 0], [.ref 72]) from rfl)).trans ?_
    refine (k_getr (Y := mX1_solve) dX1_solve_22 rfl rfl ⟨by decide, rfl⟩ (by decide) rfl).trans ?_
    refine (q_blk (Y := mX1_solve) (q_dcC dX1_solve_25 (q_dcC dX1_solve_26 q_dcN)) (show _ = some (27, [.ref 72, .int x1, .int x2, .retAddr 0, .retAddr 0], [.int 0, .int x2, .ref 81]) from rfl)).trans ?_
    exact K_calV (d := d) (Y := mX1_solve) (Z := mX7_get) (vs := [.int x2, .int 0]) (rest := []) (la := [.ref 81, .int x2, .int 0]) dX1_solve_27 rfl rfl rfl rfl ⟨by decide, rfl⟩ (Nat.le_of_ble_eq_true rfl) rfl (Nat.le_of_ble_eq_true rfl)
theorem B_X1_solve_94 {o : q_H} (d : Nat) (x1 x2 : Int32) (g : Nat → Nat → Int32) : q_sem (d) mX1_solve 94 [.ref 72, .int x1, .int x2, .retAddr 0, .retAddr 0] [] (q_K o g) = some (none, q_K o g) := by
  exact k_vret (Y := mX1_solve) dX1_solve_94 rfl
theorem B_X1_solve_30 {o : q_H} (d : Nat) (x1 x2 y0 : Int32) (g : Nat → Nat → Int32) : q_sem (d) mX1_solve 30 [.ref 72, .int x1, .int x2, .retAddr 0, .retAddr 0] [.int y0] (q_K o g) = q_sem (d) mX1_solve 34 [.ref 72, .int x1, .int x2, .int y0, .int 0] [] (q_K o g) := by
  refine (q_blk (Y := mX1_solve) (q_dcC dX1_solve_30 (q_dcC dX1_solve_31 (q_dcC dX1_solve_32 q_dcN))) (show _ = some (34, [.ref 72, .int x1, .int x2, .int y0, .int 0], []) from rfl)).trans ?_
  rfl
theorem B_X1_solve_34 {o : q_H} (d : Nat) (x1 x2 x3 x4 : Int32) (g : Nat → Nat → Int32) : q_sem (d + 1) mX1_solve 34 [.ref 72, .int x1, .int x2, .int x3, .int x4] [] (q_K o g) = (if x3 < x4 then q_sem (d + 1) mX1_solve 17 [.ref 72, .int x1, .int (x2 + (-1)), .int x3, .int x4] [] (q_K o g) else (if (x4 &&& (x3 ^^^ (-1))) = 0 then (q_sem d mX7_size 0 [.ref 73] [] (q_K o g)).bind (fun r => q_sem (d + 1) mX1_solve 61 [.ref 72, .int x1, .int x2, .int x3, .int x4] (r.1.toList ++ [.int x2, .int x4, .int x2, .ref 72]) r.2) else q_sem (d + 1) mX1_solve 34 [.ref 72, .int x1, .int x2, .int x3, .int (x4 + 1)] [] (q_K o g))) := by
  refine (q_blk (Y := mX1_solve) (q_dcC dX1_solve_34 (q_dcC dX1_solve_36 (q_dcC dX1_solve_37 q_dcN))) (show _ = some ((if q_cc .gt x4 x3 = true then 84 else 40), [.ref 72, .int x1, .int x2, .int x3, .int x4], []) from rfl)).trans ?_
  by_cases c1 : x3 < x4
  · rw [if_pos (show q_cc .gt x4 x3 = true from decide_eq_true c1)]
    refine Eq.trans ?_ (if_pos c1).symm
    refine (q_blk (Y := mX1_solve) (q_dcC dX1_solve_84 (q_dcC dX1_solve_87 q_dcN)) (show _ = some (17, [.ref 72, .int x1, .int (x2 + (-1)), .int x3, .int x4], []) from rfl)).trans ?_
    rfl
  · rw [if_neg (show ¬ q_cc .gt x4 x3 = true from fun z => c1 (of_decide_eq_true z))]
    refine Eq.trans ?_ (if_neg c1).symm
    refine (q_blk (Y := mX1_solve) (q_dcC dX1_solve_40 (q_dcC dX1_solve_42 (q_dcC dX1_solve_43 (q_dcC dX1_solve_44 (q_dcC dX1_solve_45 (q_dcC dX1_solve_46 q_dcN)))))) (show _ = some ((if q_cc .ne (x4 &&& (x3 ^^^ (-1))) 0 = true then 78 else 49), [.ref 72, .int x1, .int x2, .int x3, .int x4], []) from rfl)).trans ?_
    by_cases c2 : (x4 &&& (x3 ^^^ (-1))) = 0
    · rw [if_neg (show ¬ q_cc .ne (x4 &&& (x3 ^^^ (-1))) 0 = true from fun z => (of_decide_eq_true z : ¬ (x4 &&& (x3 ^^^ (-1))) = 0) c2)]
      refine Eq.trans ?_ (if_pos c2).symm
      refine (q_blk (Y := mX1_solve) (q_dcC dX1_solve_49 (q_dcC dX1_solve_50 (q_dcC dX1_solve_51 (q_dcC dX1_solve_53 (q_dcC dX1_solve_54 q_dcN))))) (show _ = some (55, [.ref 72, .int x1, .int x2, .int x3, .int x4], [.ref 72, .int x2, .int x4, .int x2, .ref 72]) from rfl)).trans ?_
      refine (k_getr (Y := mX1_solve) dX1_solve_55 rfl rfl ⟨by decide, rfl⟩ (by decide) rfl).trans ?_
      exact K_calV (d := d) (Y := mX1_solve) (Z := mX7_size) (vs := []) (rest := [.int x2, .int x4, .int x2, .ref 72]) (la := [.ref 73]) dX1_solve_58 rfl rfl rfl rfl ⟨by decide, rfl⟩ (Nat.le_of_ble_eq_true rfl) rfl (Nat.le_of_ble_eq_true rfl)
    · rw [if_pos (show q_cc .ne (x4 &&& (x3 ^^^ (-1))) 0 = true from decide_eq_true c2)]
      refine Eq.trans ?_ (if_neg c2).symm
      refine (q_blk (Y := mX1_solve) (q_dcC dX1_solve_78 (q_dcC dX1_solve_81 q_dcN)) (show _ = some (34, [.ref 72, .int x1, .int x2, .int x3, .int (x4 + 1)], []) from rfl)).trans ?_
      rfl
theorem B_X1_solve_17a {o : q_H} (d : Nat) (x1 x2 x3 x4 : Int32) (g : Nat → Nat → Int32) : q_sem (d + 1) mX1_solve 17 [.ref 72, .int x1, .int x2, .int x3, .int x4] [] (q_K o g) = (if x2 < 0 then (q_sem d mX1_take 0 [.ref 72, .retAddr 0, .retAddr 0, .retAddr 0] [] (q_K o g)).bind (fun r => q_sem (d + 1) mX1_solve 94 [.ref 72, .int x1, .int x2, .int x3, .int x4] (r.1.toList ++ []) r.2) else (q_sem d mX7_get 0 [.ref 81, .int x2, .int 0] [] (q_K o g)).bind (fun r => q_sem (d + 1) mX1_solve 30 [.ref 72, .int x1, .int x2, .int x3, .int x4] (r.1.toList ++ []) r.2)) := by
  refine (q_blk (Y := mX1_solve) (q_dcC dX1_solve_17 (q_dcC dX1_solve_18 q_dcN)) (show _ = some ((if q_cc .lt x2 0 = true then 90 else 21), [.ref 72, .int x1, .int x2, .int x3, .int x4], []) from rfl)).trans ?_
  by_cases c1 : x2 < 0
  · rw [if_pos (show q_cc .lt x2 0 = true from decide_eq_true c1)]
    refine Eq.trans ?_ (if_pos c1).symm
    refine (q_blk (Y := mX1_solve) (q_dcC dX1_solve_90 q_dcN) (show _ = some (91, [.ref 72, .int x1, .int x2, .int x3, .int x4], [.ref 72]) from rfl)).trans ?_
    exact K_calV (d := d) (Y := mX1_solve) (Z := mX1_take) (vs := []) (rest := []) (la := [.ref 72, .retAddr 0, .retAddr 0, .retAddr 0]) dX1_solve_91 rfl rfl rfl rfl ⟨by decide, rfl⟩ (Nat.le_of_ble_eq_true rfl) rfl (Nat.le_of_ble_eq_true rfl)
  · rw [if_neg (show ¬ q_cc .lt x2 0 = true from fun z => c1 (of_decide_eq_true z))]
    refine Eq.trans ?_ (if_neg c1).symm
    refine (q_blk (Y := mX1_solve) (q_dcC dX1_solve_21 q_dcN) (show _ = some (22, [.ref 72, .int x1, .int x2, .int x3, .int x4], [.ref 72]) from rfl)).trans ?_
    refine (k_getr (Y := mX1_solve) dX1_solve_22 rfl rfl ⟨by decide, rfl⟩ (by decide) rfl).trans ?_
    refine (q_blk (Y := mX1_solve) (q_dcC dX1_solve_25 (q_dcC dX1_solve_26 q_dcN)) (show _ = some (27, [.ref 72, .int x1, .int x2, .int x3, .int x4], [.int 0, .int x2, .ref 81]) from rfl)).trans ?_
    exact K_calV (d := d) (Y := mX1_solve) (Z := mX7_get) (vs := [.int x2, .int 0]) (rest := []) (la := [.ref 81, .int x2, .int 0]) dX1_solve_27 rfl rfl rfl rfl ⟨by decide, rfl⟩ (Nat.le_of_ble_eq_true rfl) rfl (Nat.le_of_ble_eq_true rfl)
theorem B_X1_solve_61 {o : q_H} (d : Nat) (x1 x2 x3 x4 y0 y1 y2 y3 : Int32) (g : Nat → Nat → Int32) : q_sem (d + 1) mX1_solve 61 [.ref 72, .int x1, .int x2, .int x3, .int x4] [.int y0, .int y1, .int y2, .int y3, .ref 72] (q_K o g) = (if y1 = y0 then (q_sem d mX1_keep 0 [.ref 72, .int y3, .int y2, .int 0, .retAddr 0] [] (q_K o g)).bind (fun r => q_sem (d + 1) mX1_solve 78 [.ref 72, .int x1, .int x2, .int x3, .int x4] (r.1.toList ++ []) r.2) else (q_sem d mX1_leastFrom 0 [.ref 72, .int x2, .int x4, .retAddr 0, .retAddr 0] [] (q_K o g)).bind (fun r => q_sem (d + 1) mX1_solve 75 [.ref 72, .int x1, .int x2, .int x3, .int x4] (r.1.toList ++ [.int y2, .int y3, .ref 72]) r.2)) := by
  refine (q_blk (Y := mX1_solve) (q_dcC dX1_solve_61 q_dcN) (show _ = some ((if q_cc .ne y1 y0 = true then 68 else 64), [.ref 72, .int x1, .int x2, .int x3, .int x4], [.int y2, .int y3, .ref 72]) from rfl)).trans ?_
  by_cases c1 : y1 = y0
  · rw [if_neg (show ¬ q_cc .ne y1 y0 = true from fun z => (of_decide_eq_true z : ¬ y1 = y0) c1)]
    refine Eq.trans ?_ (if_pos c1).symm
    refine (q_blk (Y := mX1_solve) (q_dcC dX1_solve_64 (q_dcC dX1_solve_65 q_dcN)) (show _ = some (75, [.ref 72, .int x1, .int x2, .int x3, .int x4], [.int 0, .int y2, .int y3, .ref 72]) from rfl)).trans ?_
    exact K_calV (d := d) (Y := mX1_solve) (Z := mX1_keep) (vs := [.int y3, .int y2, .int 0]) (rest := []) (la := [.ref 72, .int y3, .int y2, .int 0, .retAddr 0]) dX1_solve_75 rfl rfl rfl rfl ⟨by decide, rfl⟩ (Nat.le_of_ble_eq_true rfl) rfl (Nat.le_of_ble_eq_true rfl)
  · rw [if_pos (show q_cc .ne y1 y0 = true from decide_eq_true c1)]
    refine Eq.trans ?_ (if_neg c1).symm
    refine (q_blk (Y := mX1_solve) (q_dcC dX1_solve_68 (q_dcC dX1_solve_69 (q_dcC dX1_solve_70 q_dcN))) (show _ = some (72, [.ref 72, .int x1, .int x2, .int x3, .int x4], [.int x4, .int x2, .ref 72, .int y2, .int y3, .ref 72]) from rfl)).trans ?_
    exact K_calV (d := d) (Y := mX1_solve) (Z := mX1_leastFrom) (vs := [.int x2, .int x4]) (rest := [.int y2, .int y3, .ref 72]) (la := [.ref 72, .int x2, .int x4, .retAddr 0, .retAddr 0]) dX1_solve_72 rfl rfl rfl rfl ⟨by decide, rfl⟩ (Nat.le_of_ble_eq_true rfl) rfl (Nat.le_of_ble_eq_true rfl)
theorem B_X1_solve_94a {o : q_H} (d : Nat) (x1 x2 x3 x4 : Int32) (g : Nat → Nat → Int32) : q_sem (d) mX1_solve 94 [.ref 72, .int x1, .int x2, .int x3, .int x4] [] (q_K o g) = some (none, q_K o g) := by
  exact k_vret (Y := mX1_solve) dX1_solve_94 rfl
theorem B_X1_solve_30a {o : q_H} (d : Nat) (x1 x2 x3 x4 y0 : Int32) (g : Nat → Nat → Int32) : q_sem (d) mX1_solve 30 [.ref 72, .int x1, .int x2, .int x3, .int x4] [.int y0] (q_K o g) = q_sem (d) mX1_solve 34 [.ref 72, .int x1, .int x2, .int y0, .int 0] [] (q_K o g) := by
  refine (q_blk (Y := mX1_solve) (q_dcC dX1_solve_30 (q_dcC dX1_solve_31 (q_dcC dX1_solve_32 q_dcN))) (show _ = some (34, [.ref 72, .int x1, .int x2, .int y0, .int 0], []) from rfl)).trans ?_
  rfl
theorem B_X1_solve_78 {o : q_H} (d : Nat) (x1 x2 x3 x4 : Int32) (g : Nat → Nat → Int32) : q_sem (d) mX1_solve 78 [.ref 72, .int x1, .int x2, .int x3, .int x4] [] (q_K o g) = q_sem (d) mX1_solve 34 [.ref 72, .int x1, .int x2, .int x3, .int (x4 + 1)] [] (q_K o g) := by
  refine (q_blk (Y := mX1_solve) (q_dcC dX1_solve_78 (q_dcC dX1_solve_81 q_dcN)) (show _ = some (34, [.ref 72, .int x1, .int x2, .int x3, .int (x4 + 1)], []) from rfl)).trans ?_
  rfl
theorem B_X1_solve_75 {o : q_H} (d : Nat) (x1 x2 x3 x4 y0 y1 y2 : Int32) (g : Nat → Nat → Int32) : q_sem (d + 1) mX1_solve 75 [.ref 72, .int x1, .int x2, .int x3, .int x4] [.int y0, .int y1, .int y2, .ref 72] (q_K o g) = (q_sem d mX1_keep 0 [.ref 72, .int y2, .int y1, .int y0, .retAddr 0] [] (q_K o g)).bind (fun r => q_sem (d + 1) mX1_solve 78 [.ref 72, .int x1, .int x2, .int x3, .int x4] (r.1.toList ++ []) r.2) := by
  exact K_calV (d := d) (Y := mX1_solve) (Z := mX1_keep) (vs := [.int y2, .int y1, .int y0]) (rest := []) (la := [.ref 72, .int y2, .int y1, .int y0, .retAddr 0]) dX1_solve_75 rfl rfl rfl rfl ⟨by decide, rfl⟩ (Nat.le_of_ble_eq_true rfl) rfl (Nat.le_of_ble_eq_true rfl)
theorem B_X1_lookAhead_0 {o : q_H} (d : Nat) (g : Nat → Nat → Int32) : q_sem (d + 1) mX1_lookAhead 0 [.ref 72, .retAddr 0, .retAddr 0, .retAddr 0] [] (q_K o g) = (q_sem d mX7_clear 0 [.ref 81] [] (q_K o g)).bind (fun r => q_sem (d + 1) mX1_lookAhead 7 [.ref 72, .retAddr 0, .retAddr 0, .retAddr 0] (r.1.toList ++ []) r.2) := by
  refine (q_blk (Y := mX1_lookAhead) (q_dcC dX1_lookAhead_0 q_dcN) (show _ = some (1, [.ref 72, .retAddr 0, .retAddr 0, .retAddr 0], [.ref 72]) from rfl)).trans ?_
  refine (k_getr (Y := mX1_lookAhead) dX1_lookAhead_1 rfl rfl ⟨by decide, rfl⟩ (by decide) rfl).trans ?_
  exact K_calV (d := d) (Y := mX1_lookAhead) (Z := mX7_clear) (vs := []) (rest := []) (la := [.ref 81]) dX1_lookAhead_4 rfl rfl rfl rfl ⟨by decide, rfl⟩ (Nat.le_of_ble_eq_true rfl) rfl (Nat.le_of_ble_eq_true rfl)
theorem B_X1_lookAhead_7 {o : q_H} (d : Nat) (g : Nat → Nat → Int32) : q_sem (d) mX1_lookAhead 7 [.ref 72, .retAddr 0, .retAddr 0, .retAddr 0] [] (q_K o g) = q_sem (d) mX1_lookAhead 11 [.ref 72, .int 0, .int 0, .retAddr 0] [] (q_K o g) := by
  refine (q_blk (Y := mX1_lookAhead) (q_dcC dX1_lookAhead_7 (q_dcC dX1_lookAhead_8 (q_dcC dX1_lookAhead_9 (q_dcC dX1_lookAhead_10 q_dcN)))) (show _ = some (11, [.ref 72, .int 0, .int 0, .retAddr 0], []) from rfl)).trans ?_
  rfl
theorem B_X1_lookAhead_11 {o : q_H} (d : Nat) (x1 x2 : Int32) (g : Nat → Nat → Int32) : q_sem (d + 1) mX1_lookAhead 11 [.ref 72, .int x1, .int x2, .retAddr 0] [] (q_K o g) = (q_sem d mX7_size 0 [.ref 73] [] (q_K o g)).bind (fun r => q_sem (d + 1) mX1_lookAhead 19 [.ref 72, .int x1, .int x2, .retAddr 0] (r.1.toList ++ [.int x2]) r.2) := by
  refine (q_blk (Y := mX1_lookAhead) (q_dcC dX1_lookAhead_11 (q_dcC dX1_lookAhead_12 q_dcN)) (show _ = some (13, [.ref 72, .int x1, .int x2, .retAddr 0], [.ref 72, .int x2]) from rfl)).trans ?_
  refine (k_getr (Y := mX1_lookAhead) dX1_lookAhead_13 rfl rfl ⟨by decide, rfl⟩ (by decide) rfl).trans ?_
  exact K_calV (d := d) (Y := mX1_lookAhead) (Z := mX7_size) (vs := []) (rest := [.int x2]) (la := [.ref 73]) dX1_lookAhead_16 rfl rfl rfl rfl ⟨by decide, rfl⟩ (Nat.le_of_ble_eq_true rfl) rfl (Nat.le_of_ble_eq_true rfl)
theorem B_X1_lookAhead_19 {o : q_H} (d : Nat) (x1 x2 y0 y1 : Int32) (g : Nat → Nat → Int32) : q_sem (d + 1) mX1_lookAhead 19 [.ref 72, .int x1, .int x2, .retAddr 0] [.int y0, .int y1] (q_K o g) = (if y0 < y1 then some (none, q_K o g) else (q_sem d mX7_add 0 [.ref 81, .int x1, .retAddr 0] [] (q_K o g)).bind (fun r => q_sem (d + 1) mX1_lookAhead 30 [.ref 72, .int x1, .int x2, .retAddr 0] (r.1.toList ++ []) r.2)) := by
  refine (q_blk (Y := mX1_lookAhead) (q_dcC dX1_lookAhead_19 q_dcN) (show _ = some ((if q_cc .gt y1 y0 = true then 78 else 22), [.ref 72, .int x1, .int x2, .retAddr 0], []) from rfl)).trans ?_
  by_cases c1 : y0 < y1
  · rw [if_pos (show q_cc .gt y1 y0 = true from decide_eq_true c1)]
    refine Eq.trans ?_ (if_pos c1).symm
    exact k_vret (Y := mX1_lookAhead) dX1_lookAhead_78 rfl
  · rw [if_neg (show ¬ q_cc .gt y1 y0 = true from fun z => c1 (of_decide_eq_true z))]
    refine Eq.trans ?_ (if_neg c1).symm
    refine (q_blk (Y := mX1_lookAhead) (q_dcC dX1_lookAhead_22 q_dcN) (show _ = some (23, [.ref 72, .int x1, .int x2, .retAddr 0], [.ref 72]) from rfl)).trans ?_
    refine (k_getr (Y := mX1_lookAhead) dX1_lookAhead_23 rfl rfl ⟨by decide, rfl⟩ (by decide) rfl).trans ?_
    refine (q_blk (Y := mX1_lookAhead) (q_dcC dX1_lookAhead_26 q_dcN) (show _ = some (27, [.ref 72, .int x1, .int x2, .retAddr 0], [.int x1, .ref 81]) from rfl)).trans ?_
    exact K_calV (d := d) (Y := mX1_lookAhead) (Z := mX7_add) (vs := [.int x1]) (rest := []) (la := [.ref 81, .int x1, .retAddr 0]) dX1_lookAhead_27 rfl rfl rfl rfl ⟨by decide, rfl⟩ (Nat.le_of_ble_eq_true rfl) rfl (Nat.le_of_ble_eq_true rfl)
theorem B_X1_lookAhead_30 {o : q_H} (d : Nat) (x1 x2 y0 : Int32) (g : Nat → Nat → Int32) : q_sem (d) mX1_lookAhead 30 [.ref 72, .int x1, .int x2, .retAddr 0] [.int y0] (q_K o g) = q_sem (d) mX1_lookAhead 33 [.ref 72, .int x1, .int x2, .int 0] [] (q_K o g) := by
  refine (q_blk (Y := mX1_lookAhead) (q_dcC dX1_lookAhead_30 (q_dcC dX1_lookAhead_31 (q_dcC dX1_lookAhead_32 q_dcN))) (show _ = some (33, [.ref 72, .int x1, .int x2, .int 0], []) from rfl)).trans ?_
  rfl
theorem B_X1_lookAhead_33 {o : q_H} (d : Nat) (x1 x2 x3 : Int32) (g : Nat → Nat → Int32) : q_sem (d + 1) mX1_lookAhead 33 [.ref 72, .int x1, .int x2, .int x3] [] (q_K o g) = (q_sem d mX7_size 0 [.ref 75] [] (q_K o g)).bind (fun r => q_sem (d + 1) mX1_lookAhead 41 [.ref 72, .int x1, .int x2, .int x3] (r.1.toList ++ [.int x3]) r.2) := by
  refine (q_blk (Y := mX1_lookAhead) (q_dcC dX1_lookAhead_33 (q_dcC dX1_lookAhead_34 q_dcN)) (show _ = some (35, [.ref 72, .int x1, .int x2, .int x3], [.ref 72, .int x3]) from rfl)).trans ?_
  refine (k_getr (Y := mX1_lookAhead) dX1_lookAhead_35 rfl rfl ⟨by decide, rfl⟩ (by decide) rfl).trans ?_
  exact K_calV (d := d) (Y := mX1_lookAhead) (Z := mX7_size) (vs := []) (rest := [.int x3]) (la := [.ref 75]) dX1_lookAhead_38 rfl rfl rfl rfl ⟨by decide, rfl⟩ (Nat.le_of_ble_eq_true rfl) rfl (Nat.le_of_ble_eq_true rfl)
theorem B_X1_lookAhead_41 {o : q_H} (d : Nat) (x1 x2 x3 y0 y1 : Int32) (g : Nat → Nat → Int32) : q_sem (d + 1) mX1_lookAhead 41 [.ref 72, .int x1, .int x2, .int x3] [.int y0, .int y1] (q_K o g) = (if y0 ≤ y1 then q_sem (d + 1) mX1_lookAhead 11 [.ref 72, .int x1, .int (x2 + 1), .int x3] [] (q_K o g) else (q_sem d mX7_get 0 [.ref 77, .int x2, .int x3] [] (q_K o g)).bind (fun r => q_sem (d + 1) mX1_lookAhead 54 [.ref 72, .int x1, .int x2, .int x3] (r.1.toList ++ [.int x1]) r.2)) := by
  refine (q_blk (Y := mX1_lookAhead) (q_dcC dX1_lookAhead_41 q_dcN) (show _ = some ((if q_cc .ge y1 y0 = true then 72 else 44), [.ref 72, .int x1, .int x2, .int x3], []) from rfl)).trans ?_
  by_cases c1 : y0 ≤ y1
  · rw [if_pos (show q_cc .ge y1 y0 = true from decide_eq_true c1)]
    refine Eq.trans ?_ (if_pos c1).symm
    refine (q_blk (Y := mX1_lookAhead) (q_dcC dX1_lookAhead_72 (q_dcC dX1_lookAhead_75 q_dcN)) (show _ = some (11, [.ref 72, .int x1, .int (x2 + 1), .int x3], []) from rfl)).trans ?_
    rfl
  · rw [if_neg (show ¬ q_cc .ge y1 y0 = true from fun z => c1 (of_decide_eq_true z))]
    refine Eq.trans ?_ (if_neg c1).symm
    refine (q_blk (Y := mX1_lookAhead) (q_dcC dX1_lookAhead_44 (q_dcC dX1_lookAhead_45 q_dcN)) (show _ = some (46, [.ref 72, .int x1, .int x2, .int x3], [.ref 72, .int x1]) from rfl)).trans ?_
    refine (k_getr (Y := mX1_lookAhead) dX1_lookAhead_46 rfl rfl ⟨by decide, rfl⟩ (by decide) rfl).trans ?_
    refine (q_blk (Y := mX1_lookAhead) (q_dcC dX1_lookAhead_49 (q_dcC dX1_lookAhead_50 q_dcN)) (show _ = some (51, [.ref 72, .int x1, .int x2, .int x3], [.int x3, .int x2, .ref 77, .int x1]) from rfl)).trans ?_
    exact K_calV (d := d) (Y := mX1_lookAhead) (Z := mX7_get) (vs := [.int x2, .int x3]) (rest := [.int x1]) (la := [.ref 77, .int x2, .int x3]) dX1_lookAhead_51 rfl rfl rfl rfl ⟨by decide, rfl⟩ (Nat.le_of_ble_eq_true rfl) rfl (Nat.le_of_ble_eq_true rfl)
theorem B_X1_lookAhead_11a {o : q_H} (d : Nat) (x1 x2 x3 : Int32) (g : Nat → Nat → Int32) : q_sem (d + 1) mX1_lookAhead 11 [.ref 72, .int x1, .int x2, .int x3] [] (q_K o g) = (q_sem d mX7_size 0 [.ref 73] [] (q_K o g)).bind (fun r => q_sem (d + 1) mX1_lookAhead 19 [.ref 72, .int x1, .int x2, .int x3] (r.1.toList ++ [.int x2]) r.2) := by
  refine (q_blk (Y := mX1_lookAhead) (q_dcC dX1_lookAhead_11 (q_dcC dX1_lookAhead_12 q_dcN)) (show _ = some (13, [.ref 72, .int x1, .int x2, .int x3], [.ref 72, .int x2]) from rfl)).trans ?_
  refine (k_getr (Y := mX1_lookAhead) dX1_lookAhead_13 rfl rfl ⟨by decide, rfl⟩ (by decide) rfl).trans ?_
  exact K_calV (d := d) (Y := mX1_lookAhead) (Z := mX7_size) (vs := []) (rest := [.int x2]) (la := [.ref 73]) dX1_lookAhead_16 rfl rfl rfl rfl ⟨by decide, rfl⟩ (Nat.le_of_ble_eq_true rfl) rfl (Nat.le_of_ble_eq_true rfl)
theorem B_X1_lookAhead_54 {o : q_H} (d : Nat) (x1 x2 x3 y0 y1 : Int32) (g : Nat → Nat → Int32) : q_sem (d) mX1_lookAhead 54 [.ref 72, .int x1, .int x2, .int x3] [.int y0, .int y1] (q_K o g) = (if y0 < 0 then q_sem (d) mX1_lookAhead 33 [.ref 72, .int (y1 ||| 0), .int x2, .int (x3 + 1)] [] (q_K o g) else q_sem (d) mX1_lookAhead 33 [.ref 72, .int (y1 ||| (1 <<< ((x3 : Int32) &&& 31))), .int x2, .int (x3 + 1)] [] (q_K o g)) := by
  refine (q_blk (Y := mX1_lookAhead) (q_dcC dX1_lookAhead_54 q_dcN) (show _ = some ((if q_cc .lt y0 0 = true then 63 else 57), [.ref 72, .int x1, .int x2, .int x3], [.int y1]) from rfl)).trans ?_
  by_cases c1 : y0 < 0
  · rw [if_pos (show q_cc .lt y0 0 = true from decide_eq_true c1)]
    refine Eq.trans ?_ (if_pos c1).symm
    refine (q_blk (Y := mX1_lookAhead) (q_dcC dX1_lookAhead_63 (q_dcC dX1_lookAhead_64 (q_dcC dX1_lookAhead_65 (q_dcC dX1_lookAhead_66 (q_dcC dX1_lookAhead_69 q_dcN))))) (show _ = some (33, [.ref 72, .int (y1 ||| 0), .int x2, .int (x3 + 1)], []) from rfl)).trans ?_
    rfl
  · rw [if_neg (show ¬ q_cc .lt y0 0 = true from fun z => c1 (of_decide_eq_true z))]
    refine Eq.trans ?_ (if_neg c1).symm
    refine (q_blk (Y := mX1_lookAhead) (q_dcC dX1_lookAhead_57 (q_dcC dX1_lookAhead_58 (q_dcC dX1_lookAhead_59 (q_dcC dX1_lookAhead_60 q_dcN)))) (show _ = some (64, [.ref 72, .int x1, .int x2, .int x3], [.int (1 <<< ((x3 : Int32) &&& 31)), .int y1]) from rfl)).trans ?_
    refine (q_blk (Y := mX1_lookAhead) (q_dcC dX1_lookAhead_64 (q_dcC dX1_lookAhead_65 (q_dcC dX1_lookAhead_66 (q_dcC dX1_lookAhead_69 q_dcN)))) (show _ = some (33, [.ref 72, .int (y1 ||| (1 <<< ((x3 : Int32) &&& 31))), .int x2, .int (x3 + 1)], []) from rfl)).trans ?_
    rfl
theorem B_X1_lookAhead_19a {o : q_H} (d : Nat) (x1 x2 x3 y0 y1 : Int32) (g : Nat → Nat → Int32) : q_sem (d + 1) mX1_lookAhead 19 [.ref 72, .int x1, .int x2, .int x3] [.int y0, .int y1] (q_K o g) = (if y0 < y1 then some (none, q_K o g) else (q_sem d mX7_add 0 [.ref 81, .int x1, .retAddr 0] [] (q_K o g)).bind (fun r => q_sem (d + 1) mX1_lookAhead 30 [.ref 72, .int x1, .int x2, .int x3] (r.1.toList ++ []) r.2)) := by
  refine (q_blk (Y := mX1_lookAhead) (q_dcC dX1_lookAhead_19 q_dcN) (show _ = some ((if q_cc .gt y1 y0 = true then 78 else 22), [.ref 72, .int x1, .int x2, .int x3], []) from rfl)).trans ?_
  by_cases c1 : y0 < y1
  · rw [if_pos (show q_cc .gt y1 y0 = true from decide_eq_true c1)]
    refine Eq.trans ?_ (if_pos c1).symm
    exact k_vret (Y := mX1_lookAhead) dX1_lookAhead_78 rfl
  · rw [if_neg (show ¬ q_cc .gt y1 y0 = true from fun z => c1 (of_decide_eq_true z))]
    refine Eq.trans ?_ (if_neg c1).symm
    refine (q_blk (Y := mX1_lookAhead) (q_dcC dX1_lookAhead_22 q_dcN) (show _ = some (23, [.ref 72, .int x1, .int x2, .int x3], [.ref 72]) from rfl)).trans ?_
    refine (k_getr (Y := mX1_lookAhead) dX1_lookAhead_23 rfl rfl ⟨by decide, rfl⟩ (by decide) rfl).trans ?_
    refine (q_blk (Y := mX1_lookAhead) (q_dcC dX1_lookAhead_26 q_dcN) (show _ = some (27, [.ref 72, .int x1, .int x2, .int x3], [.int x1, .ref 81]) from rfl)).trans ?_
    exact K_calV (d := d) (Y := mX1_lookAhead) (Z := mX7_add) (vs := [.int x1]) (rest := []) (la := [.ref 81, .int x1, .retAddr 0]) dX1_lookAhead_27 rfl rfl rfl rfl ⟨by decide, rfl⟩ (Nat.le_of_ble_eq_true rfl) rfl (Nat.le_of_ble_eq_true rfl)
theorem B_X1_lookAhead_30a {o : q_H} (d : Nat) (x1 x2 x3 y0 : Int32) (g : Nat → Nat → Int32) : q_sem (d) mX1_lookAhead 30 [.ref 72, .int x1, .int x2, .int x3] [.int y0] (q_K o g) = q_sem (d) mX1_lookAhead 33 [.ref 72, .int x1, .int x2, .int 0] [] (q_K o g) := by
  refine (q_blk (Y := mX1_lookAhead) (q_dcC dX1_lookAhead_30 (q_dcC dX1_lookAhead_31 (q_dcC dX1_lookAhead_32 q_dcN))) (show _ = some (33, [.ref 72, .int x1, .int x2, .int 0], []) from rfl)).trans ?_
  rfl
theorem B_X1_take_0 {o : q_H} (d : Nat) (g : Nat → Nat → Int32) : q_sem (d + 1) mX1_take 0 [.ref 72, .retAddr 0, .retAddr 0, .retAddr 0] [] (q_K o g) = (q_sem d mX7_clear 0 [.ref 79] [] (q_K o (q_up (q_up g 72 7 0) 72 8 0))).bind (fun r => q_sem (d + 1) mX1_take 19 [.ref 72, .int 0, .retAddr 0, .retAddr 0] (r.1.toList ++ []) r.2) := by
  refine (q_blk (Y := mX1_take) (q_dcC dX1_take_0 (q_dcC dX1_take_1 (q_dcC dX1_take_2 (q_dcC dX1_take_3 q_dcN)))) (show _ = some (4, [.ref 72, .int 0, .retAddr 0, .retAddr 0], [.int 0, .ref 72]) from rfl)).trans ?_
  refine (k_puti (Y := mX1_take) dX1_take_4 rfl ⟨by decide, rfl⟩ (by decide) rfl rfl rfl rfl).trans ?_
  refine (q_blk (Y := mX1_take) (q_dcC dX1_take_7 (q_dcC dX1_take_8 q_dcN)) (show _ = some (9, [.ref 72, .int 0, .retAddr 0, .retAddr 0], [.int 0, .ref 72]) from rfl)).trans ?_
  refine (k_puti (Y := mX1_take) dX1_take_9 rfl ⟨by decide, rfl⟩ (by decide) rfl rfl rfl rfl).trans ?_
  refine (q_blk (Y := mX1_take) (q_dcC dX1_take_12 q_dcN) (show _ = some (13, [.ref 72, .int 0, .retAddr 0, .retAddr 0], [.ref 72]) from rfl)).trans ?_
  refine (k_getr (Y := mX1_take) dX1_take_13 rfl rfl ⟨by decide, rfl⟩ (by decide) rfl).trans ?_
  exact K_calV (d := d) (Y := mX1_take) (Z := mX7_clear) (vs := []) (rest := []) (la := [.ref 79]) dX1_take_16 rfl rfl rfl rfl ⟨by decide, rfl⟩ (Nat.le_of_ble_eq_true rfl) rfl (Nat.le_of_ble_eq_true rfl)
theorem B_X1_take_19 {o : q_H} (d : Nat) (x1 : Int32) (g : Nat → Nat → Int32) : q_sem (d) mX1_take 19 [.ref 72, .int x1, .retAddr 0, .retAddr 0] [] (q_K o g) = q_sem (d) mX1_take 21 [.ref 72, .int x1, .int 0, .retAddr 0] [] (q_K o g) := by
  refine (q_blk (Y := mX1_take) (q_dcC dX1_take_19 (q_dcC dX1_take_20 q_dcN)) (show _ = some (21, [.ref 72, .int x1, .int 0, .retAddr 0], []) from rfl)).trans ?_
  rfl
theorem B_X1_take_21 {o : q_H} (d : Nat) (x1 x2 : Int32) (g : Nat → Nat → Int32) : q_sem (d + 1) mX1_take 21 [.ref 72, .int x1, .int x2, .retAddr 0] [] (q_K o g) = (q_sem d mX7_size 0 [.ref 73] [] (q_K o g)).bind (fun r => q_sem (d + 1) mX1_take 29 [.ref 72, .int x1, .int x2, .retAddr 0] (r.1.toList ++ [.int x2]) r.2) := by
  refine (q_blk (Y := mX1_take) (q_dcC dX1_take_21 (q_dcC dX1_take_22 q_dcN)) (show _ = some (23, [.ref 72, .int x1, .int x2, .retAddr 0], [.ref 72, .int x2]) from rfl)).trans ?_
  refine (k_getr (Y := mX1_take) dX1_take_23 rfl rfl ⟨by decide, rfl⟩ (by decide) rfl).trans ?_
  exact K_calV (d := d) (Y := mX1_take) (Z := mX7_size) (vs := []) (rest := [.int x2]) (la := [.ref 73]) dX1_take_26 rfl rfl rfl rfl ⟨by decide, rfl⟩ (Nat.le_of_ble_eq_true rfl) rfl (Nat.le_of_ble_eq_true rfl)
theorem B_X1_take_29 {o : q_H} (d : Nat) (x1 x2 y0 y1 : Int32) (g : Nat → Nat → Int32) : q_sem (d + 1) mX1_take 29 [.ref 72, .int x1, .int x2, .retAddr 0] [.int y0, .int y1] (q_K o g) = (if y0 ≤ y1 then some (none, q_K o g) else (q_sem d mX1_firstBest 0 [.ref 72, .int x2, .int x1, .retAddr 0, .retAddr 0] [] (q_K o g)).bind (fun r => q_sem (d + 1) mX1_take 38 [.ref 72, .int x1, .int x2, .retAddr 0] (r.1.toList ++ []) r.2)) := by
  refine (q_blk (Y := mX1_take) (q_dcC dX1_take_29 q_dcN) (show _ = some ((if q_cc .ge y1 y0 = true then 92 else 32), [.ref 72, .int x1, .int x2, .retAddr 0], []) from rfl)).trans ?_
  by_cases c1 : y0 ≤ y1
  · rw [if_pos (show q_cc .ge y1 y0 = true from decide_eq_true c1)]
    refine Eq.trans ?_ (if_pos c1).symm
    exact k_vret (Y := mX1_take) dX1_take_92 rfl
  · rw [if_neg (show ¬ q_cc .ge y1 y0 = true from fun z => c1 (of_decide_eq_true z))]
    refine Eq.trans ?_ (if_neg c1).symm
    refine (q_blk (Y := mX1_take) (q_dcC dX1_take_32 (q_dcC dX1_take_33 (q_dcC dX1_take_34 q_dcN))) (show _ = some (35, [.ref 72, .int x1, .int x2, .retAddr 0], [.int x1, .int x2, .ref 72]) from rfl)).trans ?_
    exact K_calV (d := d) (Y := mX1_take) (Z := mX1_firstBest) (vs := [.int x2, .int x1]) (rest := []) (la := [.ref 72, .int x2, .int x1, .retAddr 0, .retAddr 0]) dX1_take_35 rfl rfl rfl rfl ⟨by decide, rfl⟩ (Nat.le_of_ble_eq_true rfl) rfl (Nat.le_of_ble_eq_true rfl)
theorem B_X1_take_38 {o : q_H} (d : Nat) (x1 x2 y0 : Int32) (g : Nat → Nat → Int32) : q_sem (d + 1) mX1_take 38 [.ref 72, .int x1, .int x2, .retAddr 0] [.int y0] (q_K o g) = (q_sem d mX7_add 0 [.ref 79, .int y0, .retAddr 0] [] (q_K o g)).bind (fun r => q_sem (d + 1) mX1_take 47 [.ref 72, .int x1, .int x2, .int y0] (r.1.toList ++ []) r.2) := by
  refine (q_blk (Y := mX1_take) (q_dcC dX1_take_38 (q_dcC dX1_take_39 q_dcN)) (show _ = some (40, [.ref 72, .int x1, .int x2, .int y0], [.ref 72]) from rfl)).trans ?_
  refine (k_getr (Y := mX1_take) dX1_take_40 rfl rfl ⟨by decide, rfl⟩ (by decide) rfl).trans ?_
  refine (q_blk (Y := mX1_take) (q_dcC dX1_take_43 q_dcN) (show _ = some (44, [.ref 72, .int x1, .int x2, .int y0], [.int y0, .ref 79]) from rfl)).trans ?_
  exact K_calV (d := d) (Y := mX1_take) (Z := mX7_add) (vs := [.int y0]) (rest := []) (la := [.ref 79, .int y0, .retAddr 0]) dX1_take_44 rfl rfl rfl rfl ⟨by decide, rfl⟩ (Nat.le_of_ble_eq_true rfl) rfl (Nat.le_of_ble_eq_true rfl)
theorem B_X1_take_47 {o : q_H} (d : Nat) (x1 x2 x3 y0 : Int32) (g : Nat → Nat → Int32) : q_sem (d + 1) mX1_take 47 [.ref 72, .int x1, .int x2, .int x3] [.int y0] (q_K o g) = (if x3 < 0 then q_sem (d + 1) mX1_take 21 [.ref 72, .int x1, .int (x2 + 1), .int x3] [] (q_K o g) else (q_sem d mX7_get 0 [.ref 77, .int x2, .int x3] [] (q_K o g)).bind (fun r => q_sem (d + 1) mX1_take 72 [.ref 72, .int (x1 ||| (1 <<< ((x3 : Int32) &&& 31))), .int x2, .int x3] (r.1.toList ++ [.int (g 72 7), .ref 72]) r.2)) := by
  refine (q_blk (Y := mX1_take) (q_dcC dX1_take_47 (q_dcC dX1_take_48 (q_dcC dX1_take_49 q_dcN))) (show _ = some ((if q_cc .lt x3 0 = true then 86 else 52), [.ref 72, .int x1, .int x2, .int x3], []) from rfl)).trans ?_
  by_cases c1 : x3 < 0
  · rw [if_pos (show q_cc .lt x3 0 = true from decide_eq_true c1)]
    refine Eq.trans ?_ (if_pos c1).symm
    refine (q_blk (Y := mX1_take) (q_dcC dX1_take_86 (q_dcC dX1_take_89 q_dcN)) (show _ = some (21, [.ref 72, .int x1, .int (x2 + 1), .int x3], []) from rfl)).trans ?_
    rfl
  · rw [if_neg (show ¬ q_cc .lt x3 0 = true from fun z => c1 (of_decide_eq_true z))]
    refine Eq.trans ?_ (if_neg c1).symm
    refine (q_blk (Y := mX1_take) (q_dcC dX1_take_52 (q_dcC dX1_take_53 (q_dcC dX1_take_54 (q_dcC dX1_take_55 (q_dcC dX1_take_56 (q_dcC dX1_take_57 (q_dcC dX1_take_58 (q_dcC dX1_take_59 q_dcN)))))))) (show _ = some (60, [.ref 72, .int (x1 ||| (1 <<< ((x3 : Int32) &&& 31))), .int x2, .int x3], [.ref 72, .ref 72]) from rfl)).trans ?_
    refine (k_geti (Y := mX1_take) dX1_take_60 rfl rfl ⟨by decide, rfl⟩ (by decide) rfl).trans ?_
    refine (q_blk (Y := mX1_take) (q_dcC dX1_take_63 q_dcN) (show _ = some (64, [.ref 72, .int (x1 ||| (1 <<< ((x3 : Int32) &&& 31))), .int x2, .int x3], [.ref 72, .int (g 72 7), .ref 72]) from rfl)).trans ?_
    refine (k_getr (Y := mX1_take) dX1_take_64 rfl rfl ⟨by decide, rfl⟩ (by decide) rfl).trans ?_
    refine (q_blk (Y := mX1_take) (q_dcC dX1_take_67 (q_dcC dX1_take_68 q_dcN)) (show _ = some (69, [.ref 72, .int (x1 ||| (1 <<< ((x3 : Int32) &&& 31))), .int x2, .int x3], [.int x3, .int x2, .ref 77, .int (g 72 7), .ref 72]) from rfl)).trans ?_
    exact K_calV (d := d) (Y := mX1_take) (Z := mX7_get) (vs := [.int x2, .int x3]) (rest := [.int (g 72 7), .ref 72]) (la := [.ref 77, .int x2, .int x3]) dX1_take_69 rfl rfl rfl rfl ⟨by decide, rfl⟩ (Nat.le_of_ble_eq_true rfl) rfl (Nat.le_of_ble_eq_true rfl)
theorem B_X1_take_21a {o : q_H} (d : Nat) (x1 x2 x3 : Int32) (g : Nat → Nat → Int32) : q_sem (d + 1) mX1_take 21 [.ref 72, .int x1, .int x2, .int x3] [] (q_K o g) = (q_sem d mX7_size 0 [.ref 73] [] (q_K o g)).bind (fun r => q_sem (d + 1) mX1_take 29 [.ref 72, .int x1, .int x2, .int x3] (r.1.toList ++ [.int x2]) r.2) := by
  refine (q_blk (Y := mX1_take) (q_dcC dX1_take_21 (q_dcC dX1_take_22 q_dcN)) (show _ = some (23, [.ref 72, .int x1, .int x2, .int x3], [.ref 72, .int x2]) from rfl)).trans ?_
  refine (k_getr (Y := mX1_take) dX1_take_23 rfl rfl ⟨by decide, rfl⟩ (by decide) rfl).trans ?_
  exact K_calV (d := d) (Y := mX1_take) (Z := mX7_size) (vs := []) (rest := [.int x2]) (la := [.ref 73]) dX1_take_26 rfl rfl rfl rfl ⟨by decide, rfl⟩ (Nat.le_of_ble_eq_true rfl) rfl (Nat.le_of_ble_eq_true rfl)
theorem B_X1_take_72 {o : q_H} (d : Nat) (x1 x2 x3 y0 y1 : Int32) (g : Nat → Nat → Int32) : q_sem (d) mX1_take 72 [.ref 72, .int x1, .int x2, .int x3] [.int y0, .int y1, .ref 72] (q_K o g) = q_sem (d) mX1_take 21 [.ref 72, .int x1, .int (x2 + 1), .int x3] [] (q_K o (q_up (q_up g 72 7 (y1 + y0)) 72 8 (((q_up g 72 7 (y1 + y0)) 72 8) + 1))) := by
  refine (q_blk (Y := mX1_take) (q_dcC dX1_take_72 q_dcN) (show _ = some (73, [.ref 72, .int x1, .int x2, .int x3], [.int (y1 + y0), .ref 72]) from rfl)).trans ?_
  refine (k_puti (Y := mX1_take) dX1_take_73 rfl ⟨by decide, rfl⟩ (by decide) rfl rfl rfl rfl).trans ?_
  refine (q_blk (Y := mX1_take) (q_dcC dX1_take_76 (q_dcC dX1_take_77 q_dcN)) (show _ = some (78, [.ref 72, .int x1, .int x2, .int x3], [.ref 72, .ref 72]) from rfl)).trans ?_
  refine (k_geti (Y := mX1_take) dX1_take_78 rfl rfl ⟨by decide, rfl⟩ (by decide) rfl).trans ?_
  refine (q_blk (Y := mX1_take) (q_dcC dX1_take_81 (q_dcC dX1_take_82 q_dcN)) (show _ = some (83, [.ref 72, .int x1, .int x2, .int x3], [.int (((q_up g 72 7 (y1 + y0)) 72 8) + 1), .ref 72]) from rfl)).trans ?_
  refine (k_puti (Y := mX1_take) dX1_take_83 rfl ⟨by decide, rfl⟩ (by decide) rfl rfl rfl rfl).trans ?_
  refine (q_blk (Y := mX1_take) (q_dcC dX1_take_86 (q_dcC dX1_take_89 q_dcN)) (show _ = some (21, [.ref 72, .int x1, .int (x2 + 1), .int x3], []) from rfl)).trans ?_
  rfl
theorem B_X1_take_29a {o : q_H} (d : Nat) (x1 x2 x3 y0 y1 : Int32) (g : Nat → Nat → Int32) : q_sem (d + 1) mX1_take 29 [.ref 72, .int x1, .int x2, .int x3] [.int y0, .int y1] (q_K o g) = (if y0 ≤ y1 then some (none, q_K o g) else (q_sem d mX1_firstBest 0 [.ref 72, .int x2, .int x1, .retAddr 0, .retAddr 0] [] (q_K o g)).bind (fun r => q_sem (d + 1) mX1_take 38 [.ref 72, .int x1, .int x2, .int x3] (r.1.toList ++ []) r.2)) := by
  refine (q_blk (Y := mX1_take) (q_dcC dX1_take_29 q_dcN) (show _ = some ((if q_cc .ge y1 y0 = true then 92 else 32), [.ref 72, .int x1, .int x2, .int x3], []) from rfl)).trans ?_
  by_cases c1 : y0 ≤ y1
  · rw [if_pos (show q_cc .ge y1 y0 = true from decide_eq_true c1)]
    refine Eq.trans ?_ (if_pos c1).symm
    exact k_vret (Y := mX1_take) dX1_take_92 rfl
  · rw [if_neg (show ¬ q_cc .ge y1 y0 = true from fun z => c1 (of_decide_eq_true z))]
    refine Eq.trans ?_ (if_neg c1).symm
    refine (q_blk (Y := mX1_take) (q_dcC dX1_take_32 (q_dcC dX1_take_33 (q_dcC dX1_take_34 q_dcN))) (show _ = some (35, [.ref 72, .int x1, .int x2, .int x3], [.int x1, .int x2, .ref 72]) from rfl)).trans ?_
    exact K_calV (d := d) (Y := mX1_take) (Z := mX1_firstBest) (vs := [.int x2, .int x1]) (rest := []) (la := [.ref 72, .int x2, .int x1, .retAddr 0, .retAddr 0]) dX1_take_35 rfl rfl rfl rfl ⟨by decide, rfl⟩ (Nat.le_of_ble_eq_true rfl) rfl (Nat.le_of_ble_eq_true rfl)
theorem B_X1_take_38a {o : q_H} (d : Nat) (x1 x2 x3 y0 : Int32) (g : Nat → Nat → Int32) : q_sem (d + 1) mX1_take 38 [.ref 72, .int x1, .int x2, .int x3] [.int y0] (q_K o g) = (q_sem d mX7_add 0 [.ref 79, .int y0, .retAddr 0] [] (q_K o g)).bind (fun r => q_sem (d + 1) mX1_take 47 [.ref 72, .int x1, .int x2, .int y0] (r.1.toList ++ []) r.2) := by
  refine (q_blk (Y := mX1_take) (q_dcC dX1_take_38 (q_dcC dX1_take_39 q_dcN)) (show _ = some (40, [.ref 72, .int x1, .int x2, .int y0], [.ref 72]) from rfl)).trans ?_
  refine (k_getr (Y := mX1_take) dX1_take_40 rfl rfl ⟨by decide, rfl⟩ (by decide) rfl).trans ?_
  refine (q_blk (Y := mX1_take) (q_dcC dX1_take_43 q_dcN) (show _ = some (44, [.ref 72, .int x1, .int x2, .int y0], [.int y0, .ref 79]) from rfl)).trans ?_
  exact K_calV (d := d) (Y := mX1_take) (Z := mX7_add) (vs := [.int y0]) (rest := []) (la := [.ref 79, .int y0, .retAddr 0]) dX1_take_44 rfl rfl rfl rfl ⟨by decide, rfl⟩ (Nat.le_of_ble_eq_true rfl) rfl (Nat.le_of_ble_eq_true rfl)
theorem B_X1_leastFrom_0 {o : q_H} (d : Nat) (x1 x2 : Int32) (g : Nat → Nat → Int32) : q_sem (d + 1) mX1_leastFrom 0 [.ref 72, .int x1, .int x2, .retAddr 0, .retAddr 0] [] (q_K o g) = (q_sem d mX1_kept 0 [.ref 72, .int (x1 + 1), .int x2, .retAddr 0] [] (q_K o g)).bind (fun r => q_sem (d + 1) mX1_leastFrom 10 [.ref 72, .int x1, .int x2, .retAddr 0, .retAddr 0] (r.1.toList ++ [.int 100000]) r.2) := by
  refine (k_ldc (Y := mX1_leastFrom) (v := 100000) dX1_leastFrom_0 rfl).trans ?_
  refine (q_blk (Y := mX1_leastFrom) (q_dcC dX1_leastFrom_2 (q_dcC dX1_leastFrom_3 (q_dcC dX1_leastFrom_4 (q_dcC dX1_leastFrom_5 (q_dcC dX1_leastFrom_6 q_dcN))))) (show _ = some (7, [.ref 72, .int x1, .int x2, .retAddr 0, .retAddr 0], [.int x2, .int (x1 + 1), .ref 72, .int 100000]) from rfl)).trans ?_
  exact K_calV (d := d) (Y := mX1_leastFrom) (Z := mX1_kept) (vs := [.int (x1 + 1), .int x2]) (rest := [.int 100000]) (la := [.ref 72, .int (x1 + 1), .int x2, .retAddr 0]) dX1_leastFrom_7 rfl rfl rfl rfl ⟨by decide, rfl⟩ (Nat.le_of_ble_eq_true rfl) rfl (Nat.le_of_ble_eq_true rfl)
theorem B_X1_leastFrom_10 {o : q_H} (d : Nat) (x1 x2 y0 y1 : Int32) (g : Nat → Nat → Int32) : q_sem (d) mX1_leastFrom 10 [.ref 72, .int x1, .int x2, .retAddr 0, .retAddr 0] [.int y0, .int y1] (q_K o g) = q_sem (d) mX1_leastFrom 15 [.ref 72, .int x1, .int x2, .int (y1 + y0), .int 0] [] (q_K o g) := by
  refine (q_blk (Y := mX1_leastFrom) (q_dcC dX1_leastFrom_10 (q_dcC dX1_leastFrom_11 (q_dcC dX1_leastFrom_12 (q_dcC dX1_leastFrom_13 q_dcN)))) (show _ = some (15, [.ref 72, .int x1, .int x2, .int (y1 + y0), .int 0], []) from rfl)).trans ?_
  rfl
theorem B_X1_leastFrom_15 {o : q_H} (d : Nat) (x1 x2 x3 x4 : Int32) (g : Nat → Nat → Int32) : q_sem (d + 1) mX1_leastFrom 15 [.ref 72, .int x1, .int x2, .int x3, .int x4] [] (q_K o g) = (q_sem d mX7_size 0 [.ref 75] [] (q_K o g)).bind (fun r => q_sem (d + 1) mX1_leastFrom 24 [.ref 72, .int x1, .int x2, .int x3, .int x4] (r.1.toList ++ [.int x4]) r.2) := by
  refine (q_blk (Y := mX1_leastFrom) (q_dcC dX1_leastFrom_15 (q_dcC dX1_leastFrom_17 q_dcN)) (show _ = some (18, [.ref 72, .int x1, .int x2, .int x3, .int x4], [.ref 72, .int x4]) from rfl)).trans ?_
  refine (k_getr (Y := mX1_leastFrom) dX1_leastFrom_18 rfl rfl ⟨by decide, rfl⟩ (by decide) rfl).trans ?_
  exact K_calV (d := d) (Y := mX1_leastFrom) (Z := mX7_size) (vs := []) (rest := [.int x4]) (la := [.ref 75]) dX1_leastFrom_21 rfl rfl rfl rfl ⟨by decide, rfl⟩ (Nat.le_of_ble_eq_true rfl) rfl (Nat.le_of_ble_eq_true rfl)
theorem B_X1_leastFrom_24 {o : q_H} (d : Nat) (x1 x2 x3 x4 y0 y1 : Int32) (g : Nat → Nat → Int32) : q_sem (d + 1) mX1_leastFrom 24 [.ref 72, .int x1, .int x2, .int x3, .int x4] [.int y0, .int y1] (q_K o g) = (if y0 ≤ y1 then some (some (.int x3), q_K o g) else (q_sem d mX1_with 0 [.ref 72, .int x1, .int x2, .int x4, .retAddr 0] [] (q_K o g)).bind (fun r => q_sem (d + 1) mX1_leastFrom 36 [.ref 72, .int x1, .int x2, .int x3, .int x4] (r.1.toList ++ [.int x3]) r.2)) := by
  refine (q_blk (Y := mX1_leastFrom) (q_dcC dX1_leastFrom_24 q_dcN) (show _ = some ((if q_cc .ge y1 y0 = true then 46 else 27), [.ref 72, .int x1, .int x2, .int x3, .int x4], []) from rfl)).trans ?_
  by_cases c1 : y0 ≤ y1
  · rw [if_pos (show q_cc .ge y1 y0 = true from decide_eq_true c1)]
    refine Eq.trans ?_ (if_pos c1).symm
    refine (q_blk (Y := mX1_leastFrom) (q_dcC dX1_leastFrom_46 q_dcN) (show _ = some (47, [.ref 72, .int x1, .int x2, .int x3, .int x4], [.int x3]) from rfl)).trans ?_
    exact k_iret (Y := mX1_leastFrom) dX1_leastFrom_47 rfl
  · rw [if_neg (show ¬ q_cc .ge y1 y0 = true from fun z => c1 (of_decide_eq_true z))]
    refine Eq.trans ?_ (if_neg c1).symm
    refine (q_blk (Y := mX1_leastFrom) (q_dcC dX1_leastFrom_27 (q_dcC dX1_leastFrom_28 (q_dcC dX1_leastFrom_29 (q_dcC dX1_leastFrom_30 (q_dcC dX1_leastFrom_31 q_dcN))))) (show _ = some (33, [.ref 72, .int x1, .int x2, .int x3, .int x4], [.int x4, .int x2, .int x1, .ref 72, .int x3]) from rfl)).trans ?_
    exact K_calV (d := d) (Y := mX1_leastFrom) (Z := mX1_with) (vs := [.int x1, .int x2, .int x4]) (rest := [.int x3]) (la := [.ref 72, .int x1, .int x2, .int x4, .retAddr 0]) dX1_leastFrom_33 rfl rfl rfl rfl ⟨by decide, rfl⟩ (Nat.le_of_ble_eq_true rfl) rfl (Nat.le_of_ble_eq_true rfl)
theorem B_X1_leastFrom_36 {o : q_H} (d : Nat) (x1 x2 x3 x4 y0 y1 : Int32) (g : Nat → Nat → Int32) : q_sem (d) mX1_leastFrom 36 [.ref 72, .int x1, .int x2, .int x3, .int x4] [.int y0, .int y1] (q_K o g) = q_sem (d) mX1_leastFrom 15 [.ref 72, .int x1, .int x2, .int (if y0 < y1 then y0 else y1), .int (x4 + 1)] [] (q_K o g) := by
  refine (k_min (Y := mX1_leastFrom) dX1_leastFrom_36 rfl rfl (by decide) (by decide) (by decide) (Nat.le_of_ble_eq_true rfl)).trans ?_
  refine (q_blk (Y := mX1_leastFrom) (q_dcC dX1_leastFrom_39 (q_dcC dX1_leastFrom_40 (q_dcC dX1_leastFrom_43 q_dcN))) (show _ = some (15, [.ref 72, .int x1, .int x2, .int (if y0 < y1 then y0 else y1), .int (x4 + 1)], []) from rfl)).trans ?_
  rfl
theorem B_X1_with_0 {o : q_H} (d : Nat) (x1 x2 x3 : Int32) (g : Nat → Nat → Int32) : q_sem (d + 1) mX1_with 0 [.ref 72, .int x1, .int x2, .int x3, .retAddr 0] [] (q_K o g) = (q_sem d mX7_get 0 [.ref 77, .int x1, .int x3] [] (q_K o g)).bind (fun r => q_sem (d + 1) mX1_with 9 [.ref 72, .int x1, .int x2, .int x3, .retAddr 0] (r.1.toList ++ []) r.2) := by
  refine (q_blk (Y := mX1_with) (q_dcC dX1_with_0 q_dcN) (show _ = some (1, [.ref 72, .int x1, .int x2, .int x3, .retAddr 0], [.ref 72]) from rfl)).trans ?_
  refine (k_getr (Y := mX1_with) dX1_with_1 rfl rfl ⟨by decide, rfl⟩ (by decide) rfl).trans ?_
  refine (q_blk (Y := mX1_with) (q_dcC dX1_with_4 (q_dcC dX1_with_5 q_dcN)) (show _ = some (6, [.ref 72, .int x1, .int x2, .int x3, .retAddr 0], [.int x3, .int x1, .ref 77]) from rfl)).trans ?_
  exact K_calV (d := d) (Y := mX1_with) (Z := mX7_get) (vs := [.int x1, .int x3]) (rest := []) (la := [.ref 77, .int x1, .int x3]) dX1_with_6 rfl rfl rfl rfl ⟨by decide, rfl⟩ (Nat.le_of_ble_eq_true rfl) rfl (Nat.le_of_ble_eq_true rfl)
theorem B_X1_with_9 {o : q_H} (d : Nat) (x1 x2 x3 y0 : Int32) (g : Nat → Nat → Int32) : q_sem (d + 1) mX1_with 9 [.ref 72, .int x1, .int x2, .int x3, .retAddr 0] [.int y0] (q_K o g) = (if y0 < 0 then some (some (.int 10000000), q_K o g) else (if ((x2 >>> ((x3 : Int32) &&& 31)) &&& 1) = 0 then (q_sem d mJ6_bitCount_0f7a4 0 [.int x2] [] (q_K o g)).bind (fun r => q_sem (d + 1) mX1_with 28 [.ref 72, .int x1, .int x2, .int x3, .int y0] (r.1.toList ++ []) r.2) else some (some (.int 10000000), q_K o g))) := by
  refine (q_blk (Y := mX1_with) (q_dcC dX1_with_9 (q_dcC dX1_with_11 (q_dcC dX1_with_13 q_dcN))) (show _ = some ((if q_cc .lt y0 0 = true then 35 else 16), [.ref 72, .int x1, .int x2, .int x3, .int y0], []) from rfl)).trans ?_
  by_cases c1 : y0 < 0
  · rw [if_pos (show q_cc .lt y0 0 = true from decide_eq_true c1)]
    refine Eq.trans ?_ (if_pos c1).symm
    refine (k_ldc (Y := mX1_with) (v := 10000000) dX1_with_35 rfl).trans ?_
    exact k_iret (Y := mX1_with) dX1_with_37 rfl
  · rw [if_neg (show ¬ q_cc .lt y0 0 = true from fun z => c1 (of_decide_eq_true z))]
    refine Eq.trans ?_ (if_neg c1).symm
    refine (q_blk (Y := mX1_with) (q_dcC dX1_with_16 (q_dcC dX1_with_17 (q_dcC dX1_with_18 (q_dcC dX1_with_19 (q_dcC dX1_with_20 (q_dcC dX1_with_21 q_dcN)))))) (show _ = some ((if q_cc .ne ((x2 >>> ((x3 : Int32) &&& 31)) &&& 1) 0 = true then 35 else 24), [.ref 72, .int x1, .int x2, .int x3, .int y0], []) from rfl)).trans ?_
    by_cases c2 : ((x2 >>> ((x3 : Int32) &&& 31)) &&& 1) = 0
    · rw [if_neg (show ¬ q_cc .ne ((x2 >>> ((x3 : Int32) &&& 31)) &&& 1) 0 = true from fun z => (of_decide_eq_true z : ¬ ((x2 >>> ((x3 : Int32) &&& 31)) &&& 1) = 0) c2)]
      refine Eq.trans ?_ (if_pos c2).symm
      refine (q_blk (Y := mX1_with) (q_dcC dX1_with_24 q_dcN) (show _ = some (25, [.ref 72, .int x1, .int x2, .int x3, .int y0], [.int x2]) from rfl)).trans ?_
      exact K_calS (d := d) (Y := mX1_with) (Z := mJ6_bitCount_0f7a4) (vs := [.int x2]) (rest := []) (la := [.int x2]) dX1_with_25 rfl rfl rfl rfl (Nat.le_of_ble_eq_true rfl) rfl (Nat.le_of_ble_eq_true rfl)
    · rw [if_pos (show q_cc .ne ((x2 >>> ((x3 : Int32) &&& 31)) &&& 1) 0 = true from decide_eq_true c2)]
      refine Eq.trans ?_ (if_neg c2).symm
      refine (k_ldc (Y := mX1_with) (v := 10000000) dX1_with_35 rfl).trans ?_
      exact k_iret (Y := mX1_with) dX1_with_37 rfl
theorem B_X1_with_28 {o : q_H} (d : Nat) (x1 x2 x3 x4 y0 : Int32) (g : Nat → Nat → Int32) : q_sem (d + 1) mX1_with 28 [.ref 72, .int x1, .int x2, .int x3, .int x4] [.int y0] (q_K o g) = (if y0 < (g 72 6) then (q_sem d mX1_kept 0 [.ref 72, .int (x1 + 1), .int (x2 ||| (1 <<< ((x3 : Int32) &&& 31))), .retAddr 0] [] (q_K o g)).bind (fun r => q_sem (d + 1) mX1_with 52 [.ref 72, .int x1, .int x2, .int x3, .int x4] (r.1.toList ++ [.int x4]) r.2) else some (some (.int 10000000), q_K o g)) := by
  refine (q_blk (Y := mX1_with) (q_dcC dX1_with_28 q_dcN) (show _ = some (29, [.ref 72, .int x1, .int x2, .int x3, .int x4], [.ref 72, .int y0]) from rfl)).trans ?_
  refine (k_geti (Y := mX1_with) dX1_with_29 rfl rfl ⟨by decide, rfl⟩ (by decide) rfl).trans ?_
  refine (q_blk (Y := mX1_with) (q_dcC dX1_with_32 q_dcN) (show _ = some ((if q_cc .lt y0 (g 72 6) = true then 38 else 35), [.ref 72, .int x1, .int x2, .int x3, .int x4], []) from rfl)).trans ?_
  by_cases c1 : y0 < (g 72 6)
  · rw [if_pos (show q_cc .lt y0 (g 72 6) = true from decide_eq_true c1)]
    refine Eq.trans ?_ (if_pos c1).symm
    refine (q_blk (Y := mX1_with) (q_dcC dX1_with_38 (q_dcC dX1_with_40 (q_dcC dX1_with_41 (q_dcC dX1_with_42 (q_dcC dX1_with_43 (q_dcC dX1_with_44 (q_dcC dX1_with_45 (q_dcC dX1_with_46 (q_dcC dX1_with_47 (q_dcC dX1_with_48 q_dcN)))))))))) (show _ = some (49, [.ref 72, .int x1, .int x2, .int x3, .int x4], [.int (x2 ||| (1 <<< ((x3 : Int32) &&& 31))), .int (x1 + 1), .ref 72, .int x4]) from rfl)).trans ?_
    exact K_calV (d := d) (Y := mX1_with) (Z := mX1_kept) (vs := [.int (x1 + 1), .int (x2 ||| (1 <<< ((x3 : Int32) &&& 31)))]) (rest := [.int x4]) (la := [.ref 72, .int (x1 + 1), .int (x2 ||| (1 <<< ((x3 : Int32) &&& 31))), .retAddr 0]) dX1_with_49 rfl rfl rfl rfl ⟨by decide, rfl⟩ (Nat.le_of_ble_eq_true rfl) rfl (Nat.le_of_ble_eq_true rfl)
  · rw [if_neg (show ¬ q_cc .lt y0 (g 72 6) = true from fun z => c1 (of_decide_eq_true z))]
    refine Eq.trans ?_ (if_neg c1).symm
    refine (k_ldc (Y := mX1_with) (v := 10000000) dX1_with_35 rfl).trans ?_
    exact k_iret (Y := mX1_with) dX1_with_37 rfl
theorem B_X1_with_52 {o : q_H} (d : Nat) (x1 x2 x3 x4 y0 y1 : Int32) (g : Nat → Nat → Int32) : q_sem (d) mX1_with 52 [.ref 72, .int x1, .int x2, .int x3, .int x4] [.int y0, .int y1] (q_K o g) = some (some (.int (y1 + y0)), q_K o g) := by
  refine (q_blk (Y := mX1_with) (q_dcC dX1_with_52 q_dcN) (show _ = some (53, [.ref 72, .int x1, .int x2, .int x3, .int x4], [.int (y1 + y0)]) from rfl)).trans ?_
  exact k_iret (Y := mX1_with) dX1_with_53 rfl
theorem B_X1_firstBest_0 {o : q_H} (d : Nat) (x1 x2 : Int32) (g : Nat → Nat → Int32) : q_sem (d + 1) mX1_firstBest 0 [.ref 72, .int x1, .int x2, .retAddr 0, .retAddr 0] [] (q_K o g) = (q_sem d mX1_leastFrom 0 [.ref 72, .int x1, .int x2, .retAddr 0, .retAddr 0] [] (q_K o g)).bind (fun r => q_sem (d + 1) mX1_firstBest 6 [.ref 72, .int x1, .int x2, .retAddr 0, .retAddr 0] (r.1.toList ++ []) r.2) := by
  refine (q_blk (Y := mX1_firstBest) (q_dcC dX1_firstBest_0 (q_dcC dX1_firstBest_1 (q_dcC dX1_firstBest_2 q_dcN))) (show _ = some (3, [.ref 72, .int x1, .int x2, .retAddr 0, .retAddr 0], [.int x2, .int x1, .ref 72]) from rfl)).trans ?_
  exact K_calV (d := d) (Y := mX1_firstBest) (Z := mX1_leastFrom) (vs := [.int x1, .int x2]) (rest := []) (la := [.ref 72, .int x1, .int x2, .retAddr 0, .retAddr 0]) dX1_firstBest_3 rfl rfl rfl rfl ⟨by decide, rfl⟩ (Nat.le_of_ble_eq_true rfl) rfl (Nat.le_of_ble_eq_true rfl)
theorem B_X1_firstBest_6 {o : q_H} (d : Nat) (x1 x2 y0 : Int32) (g : Nat → Nat → Int32) : q_sem (d) mX1_firstBest 6 [.ref 72, .int x1, .int x2, .retAddr 0, .retAddr 0] [.int y0] (q_K o g) = q_sem (d) mX1_firstBest 10 [.ref 72, .int x1, .int x2, .int y0, .int 0] [] (q_K o g) := by
  refine (q_blk (Y := mX1_firstBest) (q_dcC dX1_firstBest_6 (q_dcC dX1_firstBest_7 (q_dcC dX1_firstBest_8 q_dcN))) (show _ = some (10, [.ref 72, .int x1, .int x2, .int y0, .int 0], []) from rfl)).trans ?_
  rfl
theorem B_X1_firstBest_10 {o : q_H} (d : Nat) (x1 x2 x3 x4 : Int32) (g : Nat → Nat → Int32) : q_sem (d + 1) mX1_firstBest 10 [.ref 72, .int x1, .int x2, .int x3, .int x4] [] (q_K o g) = (q_sem d mX7_size 0 [.ref 75] [] (q_K o g)).bind (fun r => q_sem (d + 1) mX1_firstBest 19 [.ref 72, .int x1, .int x2, .int x3, .int x4] (r.1.toList ++ [.int x4]) r.2) := by
  refine (q_blk (Y := mX1_firstBest) (q_dcC dX1_firstBest_10 (q_dcC dX1_firstBest_12 q_dcN)) (show _ = some (13, [.ref 72, .int x1, .int x2, .int x3, .int x4], [.ref 72, .int x4]) from rfl)).trans ?_
  refine (k_getr (Y := mX1_firstBest) dX1_firstBest_13 rfl rfl ⟨by decide, rfl⟩ (by decide) rfl).trans ?_
  exact K_calV (d := d) (Y := mX1_firstBest) (Z := mX7_size) (vs := []) (rest := [.int x4]) (la := [.ref 75]) dX1_firstBest_16 rfl rfl rfl rfl ⟨by decide, rfl⟩ (Nat.le_of_ble_eq_true rfl) rfl (Nat.le_of_ble_eq_true rfl)
theorem B_X1_firstBest_19 {o : q_H} (d : Nat) (x1 x2 x3 x4 y0 y1 : Int32) (g : Nat → Nat → Int32) : q_sem (d + 1) mX1_firstBest 19 [.ref 72, .int x1, .int x2, .int x3, .int x4] [.int y0, .int y1] (q_K o g) = (if y0 ≤ y1 then some (some (.int (-1)), q_K o g) else (q_sem d mX1_with 0 [.ref 72, .int x1, .int x2, .int x4, .retAddr 0] [] (q_K o g)).bind (fun r => q_sem (d + 1) mX1_firstBest 30 [.ref 72, .int x1, .int x2, .int x3, .int x4] (r.1.toList ++ []) r.2)) := by
  refine (q_blk (Y := mX1_firstBest) (q_dcC dX1_firstBest_19 q_dcN) (show _ = some ((if q_cc .ge y1 y0 = true then 43 else 22), [.ref 72, .int x1, .int x2, .int x3, .int x4], []) from rfl)).trans ?_
  by_cases c1 : y0 ≤ y1
  · rw [if_pos (show q_cc .ge y1 y0 = true from decide_eq_true c1)]
    refine Eq.trans ?_ (if_pos c1).symm
    refine (q_blk (Y := mX1_firstBest) (q_dcC dX1_firstBest_43 q_dcN) (show _ = some (44, [.ref 72, .int x1, .int x2, .int x3, .int x4], [.int (-1)]) from rfl)).trans ?_
    exact k_iret (Y := mX1_firstBest) dX1_firstBest_44 rfl
  · rw [if_neg (show ¬ q_cc .ge y1 y0 = true from fun z => c1 (of_decide_eq_true z))]
    refine Eq.trans ?_ (if_neg c1).symm
    refine (q_blk (Y := mX1_firstBest) (q_dcC dX1_firstBest_22 (q_dcC dX1_firstBest_23 (q_dcC dX1_firstBest_24 (q_dcC dX1_firstBest_25 q_dcN)))) (show _ = some (27, [.ref 72, .int x1, .int x2, .int x3, .int x4], [.int x4, .int x2, .int x1, .ref 72]) from rfl)).trans ?_
    exact K_calV (d := d) (Y := mX1_firstBest) (Z := mX1_with) (vs := [.int x1, .int x2, .int x4]) (rest := []) (la := [.ref 72, .int x1, .int x2, .int x4, .retAddr 0]) dX1_firstBest_27 rfl rfl rfl rfl ⟨by decide, rfl⟩ (Nat.le_of_ble_eq_true rfl) rfl (Nat.le_of_ble_eq_true rfl)
theorem B_X1_firstBest_30 {o : q_H} (d : Nat) (x1 x2 x3 x4 y0 : Int32) (g : Nat → Nat → Int32) : q_sem (d) mX1_firstBest 30 [.ref 72, .int x1, .int x2, .int x3, .int x4] [.int y0] (q_K o g) = (if y0 = x3 then some (some (.int x4), q_K o g) else q_sem (d) mX1_firstBest 10 [.ref 72, .int x1, .int x2, .int x3, .int (x4 + 1)] [] (q_K o g)) := by
  refine (q_blk (Y := mX1_firstBest) (q_dcC dX1_firstBest_30 (q_dcC dX1_firstBest_31 q_dcN)) (show _ = some ((if q_cc .ne y0 x3 = true then 37 else 34), [.ref 72, .int x1, .int x2, .int x3, .int x4], []) from rfl)).trans ?_
  by_cases c1 : y0 = x3
  · rw [if_neg (show ¬ q_cc .ne y0 x3 = true from fun z => (of_decide_eq_true z : ¬ y0 = x3) c1)]
    refine Eq.trans ?_ (if_pos c1).symm
    refine (q_blk (Y := mX1_firstBest) (q_dcC dX1_firstBest_34 q_dcN) (show _ = some (36, [.ref 72, .int x1, .int x2, .int x3, .int x4], [.int x4]) from rfl)).trans ?_
    exact k_iret (Y := mX1_firstBest) dX1_firstBest_36 rfl
  · rw [if_pos (show q_cc .ne y0 x3 = true from decide_eq_true c1)]
    refine Eq.trans ?_ (if_neg c1).symm
    refine (q_blk (Y := mX1_firstBest) (q_dcC dX1_firstBest_37 (q_dcC dX1_firstBest_40 q_dcN)) (show _ = some (10, [.ref 72, .int x1, .int x2, .int x3, .int (x4 + 1)], []) from rfl)).trans ?_
    rfl
theorem B_X1_keep_0 {o : q_H} (d : Nat) (x1 x2 x3 : Int32) (g : Nat → Nat → Int32) : q_sem (d) mX1_keep 0 [.ref 72, .int x1, .int x2, .int x3, .retAddr 0] [] (q_K o g) = (if ((x1 * 512) + x2) < 0 then some (none, q_K o g) else (if 5120 ≤ ((x1 * 512) + x2) then some (none, q_K o g) else (q_rg ((x1 * 512) + x2) 5120 (fun j3 => some (none, q_K o (q_up g 83 j3 x3)))))) := by
  refine (q_blk (Y := mX1_keep) (q_dcC dX1_keep_0 (q_dcC dX1_keep_1 (q_dcC dX1_keep_4 (q_dcC dX1_keep_5 (q_dcC dX1_keep_6 (q_dcC dX1_keep_7 (q_dcC dX1_keep_9 (q_dcC dX1_keep_11 q_dcN)))))))) (show _ = some ((if q_cc .lt ((x1 * 512) + x2) 0 = true then 32 else 14), [.ref 72, .int x1, .int x2, .int x3, .int ((x1 * 512) + x2)], []) from rfl)).trans ?_
  by_cases c1 : ((x1 * 512) + x2) < 0
  · rw [if_pos (show q_cc .lt ((x1 * 512) + x2) 0 = true from decide_eq_true c1)]
    refine Eq.trans ?_ (if_pos c1).symm
    exact k_vret (Y := mX1_keep) dX1_keep_32 rfl
  · rw [if_neg (show ¬ q_cc .lt ((x1 * 512) + x2) 0 = true from fun z => c1 (of_decide_eq_true z))]
    refine Eq.trans ?_ (if_neg c1).symm
    refine (q_blk (Y := mX1_keep) (q_dcC dX1_keep_14 (q_dcC dX1_keep_16 q_dcN)) (show _ = some (17, [.ref 72, .int x1, .int x2, .int x3, .int ((x1 * 512) + x2)], [.ref 72, .int ((x1 * 512) + x2)]) from rfl)).trans ?_
    refine (k_getr (Y := mX1_keep) dX1_keep_17 rfl rfl ⟨by decide, rfl⟩ (by decide) rfl).trans ?_
    refine (k_alen (Y := mX1_keep) dX1_keep_20 ⟨by decide, rfl, rfl⟩).trans ?_
    refine (q_blk (Y := mX1_keep) (q_dcC dX1_keep_21 q_dcN) (show _ = some ((if q_cc .ge ((x1 * 512) + x2) 5120 = true then 32 else 24), [.ref 72, .int x1, .int x2, .int x3, .int ((x1 * 512) + x2)], []) from rfl)).trans ?_
    by_cases c2 : 5120 ≤ ((x1 * 512) + x2)
    · rw [if_pos (show q_cc .ge ((x1 * 512) + x2) 5120 = true from decide_eq_true c2)]
      refine Eq.trans ?_ (if_pos c2).symm
      exact k_vret (Y := mX1_keep) dX1_keep_32 rfl
    · rw [if_neg (show ¬ q_cc .ge ((x1 * 512) + x2) 5120 = true from fun z => c2 (of_decide_eq_true z))]
      refine Eq.trans ?_ (if_neg c2).symm
      refine (q_blk (Y := mX1_keep) (q_dcC dX1_keep_24 q_dcN) (show _ = some (25, [.ref 72, .int x1, .int x2, .int x3, .int ((x1 * 512) + x2)], [.ref 72]) from rfl)).trans ?_
      refine (k_getr (Y := mX1_keep) dX1_keep_25 rfl rfl ⟨by decide, rfl⟩ (by decide) rfl).trans ?_
      refine (q_blk (Y := mX1_keep) (q_dcC dX1_keep_28 (q_dcC dX1_keep_30 q_dcN)) (show _ = some (31, [.ref 72, .int x1, .int x2, .int x3, .int ((x1 * 512) + x2)], [.int x3, .int ((x1 * 512) + x2), .ref 83]) from rfl)).trans ?_
      by_cases c3 : q_inn ((x1 * 512) + x2) 5120
      rotate_left
      · refine Eq.trans ?_ (q_rgF c3).symm
        exact K_iastX (Y := mX1_keep) dX1_keep_31 ⟨by decide, rfl, rfl⟩ c3
      refine Eq.trans ?_ (q_rgT c3).symm
      refine (K_iast (Y := mX1_keep) dX1_keep_31 ⟨by decide, rfl, rfl⟩ c3).trans ?_
      exact k_vret (Y := mX1_keep) dX1_keep_32 rfl
theorem B_X1_kept_0 {o : q_H} (d : Nat) (x1 x2 : Int32) (g : Nat → Nat → Int32) : q_sem (d) mX1_kept 0 [.ref 72, .int x1, .int x2, .retAddr 0] [] (q_K o g) = (if ((x1 * 512) + x2) < 0 then some (some (.int 10000000), q_K o g) else (if 5120 ≤ ((x1 * 512) + x2) then some (some (.int 10000000), q_K o g) else (q_rg ((x1 * 512) + x2) 5120 (fun j3 => some (some (.int (g 83 j3)), q_K o g))))) := by
  refine (q_blk (Y := mX1_kept) (q_dcC dX1_kept_0 (q_dcC dX1_kept_1 (q_dcC dX1_kept_4 (q_dcC dX1_kept_5 (q_dcC dX1_kept_6 (q_dcC dX1_kept_7 (q_dcC dX1_kept_8 (q_dcC dX1_kept_9 q_dcN)))))))) (show _ = some ((if q_cc .lt ((x1 * 512) + x2) 0 = true then 30 else 12), [.ref 72, .int x1, .int x2, .int ((x1 * 512) + x2)], []) from rfl)).trans ?_
  by_cases c1 : ((x1 * 512) + x2) < 0
  · rw [if_pos (show q_cc .lt ((x1 * 512) + x2) 0 = true from decide_eq_true c1)]
    refine Eq.trans ?_ (if_pos c1).symm
    refine (k_ldc (Y := mX1_kept) (v := 10000000) dX1_kept_30 rfl).trans ?_
    exact k_iret (Y := mX1_kept) dX1_kept_32 rfl
  · rw [if_neg (show ¬ q_cc .lt ((x1 * 512) + x2) 0 = true from fun z => c1 (of_decide_eq_true z))]
    refine Eq.trans ?_ (if_neg c1).symm
    refine (q_blk (Y := mX1_kept) (q_dcC dX1_kept_12 (q_dcC dX1_kept_13 q_dcN)) (show _ = some (14, [.ref 72, .int x1, .int x2, .int ((x1 * 512) + x2)], [.ref 72, .int ((x1 * 512) + x2)]) from rfl)).trans ?_
    refine (k_getr (Y := mX1_kept) dX1_kept_14 rfl rfl ⟨by decide, rfl⟩ (by decide) rfl).trans ?_
    refine (k_alen (Y := mX1_kept) dX1_kept_17 ⟨by decide, rfl, rfl⟩).trans ?_
    refine (q_blk (Y := mX1_kept) (q_dcC dX1_kept_18 q_dcN) (show _ = some ((if q_cc .ge ((x1 * 512) + x2) 5120 = true then 30 else 21), [.ref 72, .int x1, .int x2, .int ((x1 * 512) + x2)], []) from rfl)).trans ?_
    by_cases c2 : 5120 ≤ ((x1 * 512) + x2)
    · rw [if_pos (show q_cc .ge ((x1 * 512) + x2) 5120 = true from decide_eq_true c2)]
      refine Eq.trans ?_ (if_pos c2).symm
      refine (k_ldc (Y := mX1_kept) (v := 10000000) dX1_kept_30 rfl).trans ?_
      exact k_iret (Y := mX1_kept) dX1_kept_32 rfl
    · rw [if_neg (show ¬ q_cc .ge ((x1 * 512) + x2) 5120 = true from fun z => c2 (of_decide_eq_true z))]
      refine Eq.trans ?_ (if_neg c2).symm
      refine (q_blk (Y := mX1_kept) (q_dcC dX1_kept_21 q_dcN) (show _ = some (22, [.ref 72, .int x1, .int x2, .int ((x1 * 512) + x2)], [.ref 72]) from rfl)).trans ?_
      refine (k_getr (Y := mX1_kept) dX1_kept_22 rfl rfl ⟨by decide, rfl⟩ (by decide) rfl).trans ?_
      refine (q_blk (Y := mX1_kept) (q_dcC dX1_kept_25 q_dcN) (show _ = some (26, [.ref 72, .int x1, .int x2, .int ((x1 * 512) + x2)], [.int ((x1 * 512) + x2), .ref 83]) from rfl)).trans ?_
      by_cases c3 : q_inn ((x1 * 512) + x2) 5120
      rotate_left
      · refine Eq.trans ?_ (q_rgF c3).symm
        exact K_ialdX (Y := mX1_kept) dX1_kept_26 ⟨by decide, rfl, rfl⟩ c3
      refine Eq.trans ?_ (q_rgT c3).symm
      refine (K_iald (Y := mX1_kept) dX1_kept_26 ⟨by decide, rfl, rfl⟩ c3).trans ?_
      refine (q_blk (Y := mX1_kept) (q_dcC dX1_kept_27 q_dcN) (show _ = some (32, [.ref 72, .int x1, .int x2, .int ((x1 * 512) + x2)], [.int (g 83 ((x1 * 512) + x2).toNatClampNeg)]) from rfl)).trans ?_
      exact k_iret (Y := mX1_kept) dX1_kept_32 rfl
theorem B_X1_pairs_0 {o : q_H} (d : Nat) (g : Nat → Nat → Int32) : q_sem (d) mX1_pairs 0 [.ref 72] [] (q_K o g) = some (some (.int (g 72 8)), q_K o g) := by
  refine (q_blk (Y := mX1_pairs) (q_dcC dX1_pairs_0 q_dcN) (show _ = some (1, [.ref 72], [.ref 72]) from rfl)).trans ?_
  refine (k_geti (Y := mX1_pairs) dX1_pairs_1 rfl rfl ⟨by decide, rfl⟩ (by decide) rfl).trans ?_
  exact k_iret (Y := mX1_pairs) dX1_pairs_4 rfl
theorem B_X1_sum_0 {o : q_H} (d : Nat) (g : Nat → Nat → Int32) : q_sem (d) mX1_sum 0 [.ref 72] [] (q_K o g) = some (some (.int (g 72 7)), q_K o g) := by
  refine (q_blk (Y := mX1_sum) (q_dcC dX1_sum_0 q_dcN) (show _ = some (1, [.ref 72], [.ref 72]) from rfl)).trans ?_
  refine (k_geti (Y := mX1_sum) dX1_sum_1 rfl rfl ⟨by decide, rfl⟩ (by decide) rfl).trans ?_
  exact k_iret (Y := mX1_sum) dX1_sum_4 rfl
theorem B_X1_partner_0 {o : q_H} (d : Nat) (x1 : Int32) (g : Nat → Nat → Int32) : q_sem (d + 1) mX1_partner 0 [.ref 72, .int x1, .retAddr 0] [] (q_K o g) = (q_sem d mX7_has 0 [.ref 79, .int x1] [] (q_K o g)).bind (fun r => q_sem (d + 1) mX1_partner 8 [.ref 72, .int x1, .retAddr 0] (r.1.toList ++ []) r.2) := by
  refine (q_blk (Y := mX1_partner) (q_dcC dX1_partner_0 q_dcN) (show _ = some (1, [.ref 72, .int x1, .retAddr 0], [.ref 72]) from rfl)).trans ?_
  refine (k_getr (Y := mX1_partner) dX1_partner_1 rfl rfl ⟨by decide, rfl⟩ (by decide) rfl).trans ?_
  refine (q_blk (Y := mX1_partner) (q_dcC dX1_partner_4 q_dcN) (show _ = some (5, [.ref 72, .int x1, .retAddr 0], [.int x1, .ref 79]) from rfl)).trans ?_
  exact K_calV (d := d) (Y := mX1_partner) (Z := mX7_has) (vs := [.int x1]) (rest := []) (la := [.ref 79, .int x1]) dX1_partner_5 rfl rfl rfl rfl ⟨by decide, rfl⟩ (Nat.le_of_ble_eq_true rfl) rfl (Nat.le_of_ble_eq_true rfl)
theorem B_X1_partner_8 {o : q_H} (d : Nat) (x1 y0 : Int32) (g : Nat → Nat → Int32) : q_sem (d + 1) mX1_partner 8 [.ref 72, .int x1, .retAddr 0] [.int y0] (q_K o g) = (if y0 = 0 then (q_sem d mX7_has 0 [.ref 75, .int (-1)] [] (q_K o g)).bind (fun r => q_sem (d + 1) mX1_partner 33 [.ref 72, .int x1, .int (-1)] (r.1.toList ++ []) r.2) else (q_sem d mX7_get 0 [.ref 79, .int x1, .int 0] [] (q_K o g)).bind (fun r => q_sem (d + 1) mX1_partner 20 [.ref 72, .int x1, .retAddr 0] (r.1.toList ++ []) r.2)) := by
  refine (q_blk (Y := mX1_partner) (q_dcC dX1_partner_8 q_dcN) (show _ = some ((if q_cc .eq y0 0 = true then 23 else 11), [.ref 72, .int x1, .retAddr 0], []) from rfl)).trans ?_
  by_cases c1 : y0 = 0
  · rw [if_pos (show q_cc .eq y0 0 = true from decide_eq_true c1)]
    refine Eq.trans ?_ (if_pos c1).symm
    refine (q_blk (Y := mX1_partner) (q_dcC dX1_partner_23 (q_dcC dX1_partner_24 (q_dcC dX1_partner_25 q_dcN))) (show _ = some (26, [.ref 72, .int x1, .int (-1)], [.ref 72]) from rfl)).trans ?_
    refine (k_getr (Y := mX1_partner) dX1_partner_26 rfl rfl ⟨by decide, rfl⟩ (by decide) rfl).trans ?_
    refine (q_blk (Y := mX1_partner) (q_dcC dX1_partner_29 q_dcN) (show _ = some (30, [.ref 72, .int x1, .int (-1)], [.int (-1), .ref 75]) from rfl)).trans ?_
    exact K_calV (d := d) (Y := mX1_partner) (Z := mX7_has) (vs := [.int (-1)]) (rest := []) (la := [.ref 75, .int (-1)]) dX1_partner_30 rfl rfl rfl rfl ⟨by decide, rfl⟩ (Nat.le_of_ble_eq_true rfl) rfl (Nat.le_of_ble_eq_true rfl)
  · rw [if_neg (show ¬ q_cc .eq y0 0 = true from fun z => c1 (of_decide_eq_true z))]
    refine Eq.trans ?_ (if_neg c1).symm
    refine (q_blk (Y := mX1_partner) (q_dcC dX1_partner_11 q_dcN) (show _ = some (12, [.ref 72, .int x1, .retAddr 0], [.ref 72]) from rfl)).trans ?_
    refine (k_getr (Y := mX1_partner) dX1_partner_12 rfl rfl ⟨by decide, rfl⟩ (by decide) rfl).trans ?_
    refine (q_blk (Y := mX1_partner) (q_dcC dX1_partner_15 (q_dcC dX1_partner_16 q_dcN)) (show _ = some (17, [.ref 72, .int x1, .retAddr 0], [.int 0, .int x1, .ref 79]) from rfl)).trans ?_
    exact K_calV (d := d) (Y := mX1_partner) (Z := mX7_get) (vs := [.int x1, .int 0]) (rest := []) (la := [.ref 79, .int x1, .int 0]) dX1_partner_17 rfl rfl rfl rfl ⟨by decide, rfl⟩ (Nat.le_of_ble_eq_true rfl) rfl (Nat.le_of_ble_eq_true rfl)
theorem B_X1_partner_33 {o : q_H} (d : Nat) (x1 x2 y0 : Int32) (g : Nat → Nat → Int32) : q_sem (d + 1) mX1_partner 33 [.ref 72, .int x1, .int x2] [.int y0] (q_K o g) = (if y0 = 0 then some (some (.int (-1)), q_K o g) else (q_sem d mX7_get 0 [.ref 75, .int x2, .int 0] [] (q_K o g)).bind (fun r => q_sem (d + 1) mX1_partner 45 [.ref 72, .int x1, .int x2] (r.1.toList ++ []) r.2)) := by
  refine (q_blk (Y := mX1_partner) (q_dcC dX1_partner_33 q_dcN) (show _ = some ((if q_cc .eq y0 0 = true then 48 else 36), [.ref 72, .int x1, .int x2], []) from rfl)).trans ?_
  by_cases c1 : y0 = 0
  · rw [if_pos (show q_cc .eq y0 0 = true from decide_eq_true c1)]
    refine Eq.trans ?_ (if_pos c1).symm
    refine (q_blk (Y := mX1_partner) (q_dcC dX1_partner_48 q_dcN) (show _ = some (49, [.ref 72, .int x1, .int x2], [.int (-1)]) from rfl)).trans ?_
    exact k_iret (Y := mX1_partner) dX1_partner_49 rfl
  · rw [if_neg (show ¬ q_cc .eq y0 0 = true from fun z => c1 (of_decide_eq_true z))]
    refine Eq.trans ?_ (if_neg c1).symm
    refine (q_blk (Y := mX1_partner) (q_dcC dX1_partner_36 q_dcN) (show _ = some (37, [.ref 72, .int x1, .int x2], [.ref 72]) from rfl)).trans ?_
    refine (k_getr (Y := mX1_partner) dX1_partner_37 rfl rfl ⟨by decide, rfl⟩ (by decide) rfl).trans ?_
    refine (q_blk (Y := mX1_partner) (q_dcC dX1_partner_40 (q_dcC dX1_partner_41 q_dcN)) (show _ = some (42, [.ref 72, .int x1, .int x2], [.int 0, .int x2, .ref 75]) from rfl)).trans ?_
    exact K_calV (d := d) (Y := mX1_partner) (Z := mX7_get) (vs := [.int x2, .int 0]) (rest := []) (la := [.ref 75, .int x2, .int 0]) dX1_partner_42 rfl rfl rfl rfl ⟨by decide, rfl⟩ (Nat.le_of_ble_eq_true rfl) rfl (Nat.le_of_ble_eq_true rfl)
theorem B_X1_partner_20 {o : q_H} (d : Nat) (x1 y0 : Int32) (g : Nat → Nat → Int32) : q_sem (d + 1) mX1_partner 20 [.ref 72, .int x1, .retAddr 0] [.int y0] (q_K o g) = (q_sem d mX7_has 0 [.ref 75, .int y0] [] (q_K o g)).bind (fun r => q_sem (d + 1) mX1_partner 33 [.ref 72, .int x1, .int y0] (r.1.toList ++ []) r.2) := by
  refine (q_blk (Y := mX1_partner) (q_dcC dX1_partner_20 q_dcN) (show _ = some (24, [.ref 72, .int x1, .retAddr 0], [.int y0]) from rfl)).trans ?_
  refine (q_blk (Y := mX1_partner) (q_dcC dX1_partner_24 (q_dcC dX1_partner_25 q_dcN)) (show _ = some (26, [.ref 72, .int x1, .int y0], [.ref 72]) from rfl)).trans ?_
  refine (k_getr (Y := mX1_partner) dX1_partner_26 rfl rfl ⟨by decide, rfl⟩ (by decide) rfl).trans ?_
  refine (q_blk (Y := mX1_partner) (q_dcC dX1_partner_29 q_dcN) (show _ = some (30, [.ref 72, .int x1, .int y0], [.int y0, .ref 75]) from rfl)).trans ?_
  exact K_calV (d := d) (Y := mX1_partner) (Z := mX7_has) (vs := [.int y0]) (rest := []) (la := [.ref 75, .int y0]) dX1_partner_30 rfl rfl rfl rfl ⟨by decide, rfl⟩ (Nat.le_of_ble_eq_true rfl) rfl (Nat.le_of_ble_eq_true rfl)
theorem B_X1_partner_45 {o : q_H} (d : Nat) (x1 x2 y0 : Int32) (g : Nat → Nat → Int32) : q_sem (d) mX1_partner 45 [.ref 72, .int x1, .int x2] [.int y0] (q_K o g) = some (some (.int y0), q_K o g) := by
  refine (q_blk (Y := mX1_partner) (q_dcC dX1_partner_45 q_dcN) (show _ = some (49, [.ref 72, .int x1, .int x2], [.int y0]) from rfl)).trans ?_
  exact k_iret (Y := mX1_partner) dX1_partner_49 rfl
theorem B_X4_read_0 {o : q_H} (d : Nat) (x2 : Int32) (g : Nat → Nat → Int32) : q_sem (d + 1) mX4_read 0 [.ref 84, .ref 69, .int x2, .retAddr 0, .retAddr 0] [] (q_K o g) = (q_sem d mX7_clear 0 [.ref 85] [] (q_K o g)).bind (fun r => q_sem (d + 1) mX4_read 7 [.ref 84, .ref 69, .int x2, .retAddr 0, .retAddr 0] (r.1.toList ++ []) r.2) := by
  refine (q_blk (Y := mX4_read) (q_dcC dX4_read_0 q_dcN) (show _ = some (1, [.ref 84, .ref 69, .int x2, .retAddr 0, .retAddr 0], [.ref 84]) from rfl)).trans ?_
  refine (k_getr (Y := mX4_read) dX4_read_1 rfl rfl ⟨by decide, rfl⟩ (by decide) rfl).trans ?_
  exact K_calV (d := d) (Y := mX4_read) (Z := mX7_clear) (vs := []) (rest := []) (la := [.ref 85]) dX4_read_4 rfl rfl rfl rfl ⟨by decide, rfl⟩ (Nat.le_of_ble_eq_true rfl) rfl (Nat.le_of_ble_eq_true rfl)
theorem B_X4_read_7 {o : q_H} (d : Nat) (x2 : Int32) (g : Nat → Nat → Int32) : q_sem (d + 1) mX4_read 7 [.ref 84, .ref 69, .int x2, .retAddr 0, .retAddr 0] [] (q_K o g) = (q_sem d mX6_size 0 [.ref 69, .int x2] [] (q_K o g)).bind (fun r => q_sem (d + 1) mX4_read 12 [.ref 84, .ref 69, .int x2, .retAddr 0, .retAddr 0] (r.1.toList ++ []) r.2) := by
  refine (q_blk (Y := mX4_read) (q_dcC dX4_read_7 (q_dcC dX4_read_8 q_dcN)) (show _ = some (9, [.ref 84, .ref 69, .int x2, .retAddr 0, .retAddr 0], [.int x2, .ref 69]) from rfl)).trans ?_
  exact K_calV (d := d) (Y := mX4_read) (Z := mX6_size) (vs := [.int x2]) (rest := []) (la := [.ref 69, .int x2]) dX4_read_9 rfl rfl rfl rfl ⟨by decide, rfl⟩ (Nat.le_of_ble_eq_true rfl) rfl (Nat.le_of_ble_eq_true rfl)
theorem B_X4_read_12 {o : q_H} (d : Nat) (x2 y0 : Int32) (g : Nat → Nat → Int32) : q_sem (d + 1) mX4_read 12 [.ref 84, .ref 69, .int x2, .retAddr 0, .retAddr 0] [.int y0] (q_K o g) = (q_sem d mX11_within 0 [.int y0, .int 1, .int 10] [] (q_K o g)).bind (fun r => q_sem (d + 1) mX4_read 18 [.ref 84, .ref 69, .int x2, .retAddr 0, .retAddr 0] (r.1.toList ++ []) r.2) := by
  refine (q_blk (Y := mX4_read) (q_dcC dX4_read_12 (q_dcC dX4_read_13 q_dcN)) (show _ = some (15, [.ref 84, .ref 69, .int x2, .retAddr 0, .retAddr 0], [.int 10, .int 1, .int y0]) from rfl)).trans ?_
  exact K_calN (d := d) (Y := mX4_read) (Z := mX11_within) (vs := [.int y0, .int 1, .int 10]) (rest := []) (la := [.int y0, .int 1, .int 10]) dX4_read_15 rfl rfl rfl rfl rfl (Nat.le_of_ble_eq_true rfl) rfl (Nat.le_of_ble_eq_true rfl)
theorem B_X4_read_18 {o : q_H} (d : Nat) (x2 y0 : Int32) (g : Nat → Nat → Int32) : q_sem (d) mX4_read 18 [.ref 84, .ref 69, .int x2, .retAddr 0, .retAddr 0] [.int y0] (q_K o g) = (if y0 = 0 then some (some (.int 0), q_K o g) else q_sem (d) mX4_read 25 [.ref 84, .ref 69, .int x2, .int 0, .retAddr 0] [] (q_K o g)) := by
  refine (q_blk (Y := mX4_read) (q_dcC dX4_read_18 q_dcN) (show _ = some ((if q_cc .ne y0 0 = true then 23 else 21), [.ref 84, .ref 69, .int x2, .retAddr 0, .retAddr 0], []) from rfl)).trans ?_
  by_cases c1 : y0 = 0
  · rw [if_neg (show ¬ q_cc .ne y0 0 = true from fun z => (of_decide_eq_true z : ¬ y0 = 0) c1)]
    refine Eq.trans ?_ (if_pos c1).symm
    refine (q_blk (Y := mX4_read) (q_dcC dX4_read_21 q_dcN) (show _ = some (22, [.ref 84, .ref 69, .int x2, .retAddr 0, .retAddr 0], [.int 0]) from rfl)).trans ?_
    exact k_iret (Y := mX4_read) dX4_read_22 rfl
  · rw [if_pos (show q_cc .ne y0 0 = true from decide_eq_true c1)]
    refine Eq.trans ?_ (if_neg c1).symm
    refine (q_blk (Y := mX4_read) (q_dcC dX4_read_23 (q_dcC dX4_read_24 q_dcN)) (show _ = some (25, [.ref 84, .ref 69, .int x2, .int 0, .retAddr 0], []) from rfl)).trans ?_
    rfl
theorem B_X4_read_25 {o : q_H} (d : Nat) (x2 x3 : Int32) (g : Nat → Nat → Int32) : q_sem (d + 1) mX4_read 25 [.ref 84, .ref 69, .int x2, .int x3, .retAddr 0] [] (q_K o g) = (q_sem d mX6_size 0 [.ref 69, .int x2] [] (q_K o g)).bind (fun r => q_sem (d + 1) mX4_read 31 [.ref 84, .ref 69, .int x2, .int x3, .retAddr 0] (r.1.toList ++ [.int x3]) r.2) := by
  refine (q_blk (Y := mX4_read) (q_dcC dX4_read_25 (q_dcC dX4_read_26 (q_dcC dX4_read_27 q_dcN))) (show _ = some (28, [.ref 84, .ref 69, .int x2, .int x3, .retAddr 0], [.int x2, .ref 69, .int x3]) from rfl)).trans ?_
  exact K_calV (d := d) (Y := mX4_read) (Z := mX6_size) (vs := [.int x2]) (rest := [.int x3]) (la := [.ref 69, .int x2]) dX4_read_28 rfl rfl rfl rfl ⟨by decide, rfl⟩ (Nat.le_of_ble_eq_true rfl) rfl (Nat.le_of_ble_eq_true rfl)
theorem B_X4_read_31 {o : q_H} (d : Nat) (x2 x3 y0 y1 : Int32) (g : Nat → Nat → Int32) : q_sem (d + 1) mX4_read 31 [.ref 84, .ref 69, .int x2, .int x3, .retAddr 0] [.int y0, .int y1] (q_K o g) = (if y0 ≤ y1 then some (some (.int 1), q_K o g) else (q_sem d mX6_get 0 [.ref 69, .int x2, .int x3] [] (q_K o g)).bind (fun r => q_sem (d + 1) mX4_read 40 [.ref 84, .ref 69, .int x2, .int x3, .retAddr 0] (r.1.toList ++ []) r.2)) := by
  refine (q_blk (Y := mX4_read) (q_dcC dX4_read_31 q_dcN) (show _ = some ((if q_cc .ge y1 y0 = true then 71 else 34), [.ref 84, .ref 69, .int x2, .int x3, .retAddr 0], []) from rfl)).trans ?_
  by_cases c1 : y0 ≤ y1
  · rw [if_pos (show q_cc .ge y1 y0 = true from decide_eq_true c1)]
    refine Eq.trans ?_ (if_pos c1).symm
    refine (q_blk (Y := mX4_read) (q_dcC dX4_read_71 q_dcN) (show _ = some (72, [.ref 84, .ref 69, .int x2, .int x3, .retAddr 0], [.int 1]) from rfl)).trans ?_
    exact k_iret (Y := mX4_read) dX4_read_72 rfl
  · rw [if_neg (show ¬ q_cc .ge y1 y0 = true from fun z => c1 (of_decide_eq_true z))]
    refine Eq.trans ?_ (if_neg c1).symm
    refine (q_blk (Y := mX4_read) (q_dcC dX4_read_34 (q_dcC dX4_read_35 (q_dcC dX4_read_36 q_dcN))) (show _ = some (37, [.ref 84, .ref 69, .int x2, .int x3, .retAddr 0], [.int x3, .int x2, .ref 69]) from rfl)).trans ?_
    exact K_calV (d := d) (Y := mX4_read) (Z := mX6_get) (vs := [.int x2, .int x3]) (rest := []) (la := [.ref 69, .int x2, .int x3]) dX4_read_37 rfl rfl rfl rfl ⟨by decide, rfl⟩ (Nat.le_of_ble_eq_true rfl) rfl (Nat.le_of_ble_eq_true rfl)
theorem B_X4_read_40 {o : q_H} (d : Nat) (x2 x3 y0 : Int32) (g : Nat → Nat → Int32) : q_sem (d + 1) mX4_read 40 [.ref 84, .ref 69, .int x2, .int x3, .retAddr 0] [.int y0] (q_K o g) = (q_sem d mX11_within 0 [.int y0, .int 0, .int 6] [] (q_K o g)).bind (fun r => q_sem (d + 1) mX4_read 50 [.ref 84, .ref 69, .int x2, .int x3, .int y0] (r.1.toList ++ []) r.2) := by
  refine (q_blk (Y := mX4_read) (q_dcC dX4_read_40 (q_dcC dX4_read_42 (q_dcC dX4_read_44 (q_dcC dX4_read_45 q_dcN)))) (show _ = some (47, [.ref 84, .ref 69, .int x2, .int x3, .int y0], [.int 6, .int 0, .int y0]) from rfl)).trans ?_
  exact K_calN (d := d) (Y := mX4_read) (Z := mX11_within) (vs := [.int y0, .int 0, .int 6]) (rest := []) (la := [.int y0, .int 0, .int 6]) dX4_read_47 rfl rfl rfl rfl rfl (Nat.le_of_ble_eq_true rfl) rfl (Nat.le_of_ble_eq_true rfl)
theorem B_X4_read_50 {o : q_H} (d : Nat) (x2 x3 x4 y0 : Int32) (g : Nat → Nat → Int32) : q_sem (d + 1) mX4_read 50 [.ref 84, .ref 69, .int x2, .int x3, .int x4] [.int y0] (q_K o g) = (if y0 = 0 then some (some (.int 0), q_K o g) else (q_sem d mX7_add 0 [.ref 85, .int x4, .retAddr 0] [] (q_K o g)).bind (fun r => q_sem (d + 1) mX4_read 64 [.ref 84, .ref 69, .int x2, .int x3, .int x4] (r.1.toList ++ []) r.2)) := by
  refine (q_blk (Y := mX4_read) (q_dcC dX4_read_50 q_dcN) (show _ = some ((if q_cc .ne y0 0 = true then 55 else 53), [.ref 84, .ref 69, .int x2, .int x3, .int x4], []) from rfl)).trans ?_
  by_cases c1 : y0 = 0
  · rw [if_neg (show ¬ q_cc .ne y0 0 = true from fun z => (of_decide_eq_true z : ¬ y0 = 0) c1)]
    refine Eq.trans ?_ (if_pos c1).symm
    refine (q_blk (Y := mX4_read) (q_dcC dX4_read_53 q_dcN) (show _ = some (54, [.ref 84, .ref 69, .int x2, .int x3, .int x4], [.int 0]) from rfl)).trans ?_
    exact k_iret (Y := mX4_read) dX4_read_54 rfl
  · rw [if_pos (show q_cc .ne y0 0 = true from decide_eq_true c1)]
    refine Eq.trans ?_ (if_neg c1).symm
    refine (q_blk (Y := mX4_read) (q_dcC dX4_read_55 q_dcN) (show _ = some (56, [.ref 84, .ref 69, .int x2, .int x3, .int x4], [.ref 84]) from rfl)).trans ?_
    refine (k_getr (Y := mX4_read) dX4_read_56 rfl rfl ⟨by decide, rfl⟩ (by decide) rfl).trans ?_
    refine (q_blk (Y := mX4_read) (q_dcC dX4_read_59 q_dcN) (show _ = some (61, [.ref 84, .ref 69, .int x2, .int x3, .int x4], [.int x4, .ref 85]) from rfl)).trans ?_
    exact K_calV (d := d) (Y := mX4_read) (Z := mX7_add) (vs := [.int x4]) (rest := []) (la := [.ref 85, .int x4, .retAddr 0]) dX4_read_61 rfl rfl rfl rfl ⟨by decide, rfl⟩ (Nat.le_of_ble_eq_true rfl) rfl (Nat.le_of_ble_eq_true rfl)
theorem B_X4_read_64 {o : q_H} (d : Nat) (x2 x3 x4 y0 : Int32) (g : Nat → Nat → Int32) : q_sem (d) mX4_read 64 [.ref 84, .ref 69, .int x2, .int x3, .int x4] [.int y0] (q_K o g) = q_sem (d) mX4_read 25 [.ref 84, .ref 69, .int x2, .int (x3 + 1), .int x4] [] (q_K o g) := by
  refine (q_blk (Y := mX4_read) (q_dcC dX4_read_64 (q_dcC dX4_read_65 (q_dcC dX4_read_68 q_dcN))) (show _ = some (25, [.ref 84, .ref 69, .int x2, .int (x3 + 1), .int x4], []) from rfl)).trans ?_
  rfl
theorem B_X4_read_25a {o : q_H} (d : Nat) (x2 x3 x4 : Int32) (g : Nat → Nat → Int32) : q_sem (d + 1) mX4_read 25 [.ref 84, .ref 69, .int x2, .int x3, .int x4] [] (q_K o g) = (q_sem d mX6_size 0 [.ref 69, .int x2] [] (q_K o g)).bind (fun r => q_sem (d + 1) mX4_read 31 [.ref 84, .ref 69, .int x2, .int x3, .int x4] (r.1.toList ++ [.int x3]) r.2) := by
  refine (q_blk (Y := mX4_read) (q_dcC dX4_read_25 (q_dcC dX4_read_26 (q_dcC dX4_read_27 q_dcN))) (show _ = some (28, [.ref 84, .ref 69, .int x2, .int x3, .int x4], [.int x2, .ref 69, .int x3]) from rfl)).trans ?_
  exact K_calV (d := d) (Y := mX4_read) (Z := mX6_size) (vs := [.int x2]) (rest := [.int x3]) (la := [.ref 69, .int x2]) dX4_read_28 rfl rfl rfl rfl ⟨by decide, rfl⟩ (Nat.le_of_ble_eq_true rfl) rfl (Nat.le_of_ble_eq_true rfl)
theorem B_X4_read_31a {o : q_H} (d : Nat) (x2 x3 x4 y0 y1 : Int32) (g : Nat → Nat → Int32) : q_sem (d + 1) mX4_read 31 [.ref 84, .ref 69, .int x2, .int x3, .int x4] [.int y0, .int y1] (q_K o g) = (if y0 ≤ y1 then some (some (.int 1), q_K o g) else (q_sem d mX6_get 0 [.ref 69, .int x2, .int x3] [] (q_K o g)).bind (fun r => q_sem (d + 1) mX4_read 40 [.ref 84, .ref 69, .int x2, .int x3, .int x4] (r.1.toList ++ []) r.2)) := by
  refine (q_blk (Y := mX4_read) (q_dcC dX4_read_31 q_dcN) (show _ = some ((if q_cc .ge y1 y0 = true then 71 else 34), [.ref 84, .ref 69, .int x2, .int x3, .int x4], []) from rfl)).trans ?_
  by_cases c1 : y0 ≤ y1
  · rw [if_pos (show q_cc .ge y1 y0 = true from decide_eq_true c1)]
    refine Eq.trans ?_ (if_pos c1).symm
    refine (q_blk (Y := mX4_read) (q_dcC dX4_read_71 q_dcN) (show _ = some (72, [.ref 84, .ref 69, .int x2, .int x3, .int x4], [.int 1]) from rfl)).trans ?_
    exact k_iret (Y := mX4_read) dX4_read_72 rfl
  · rw [if_neg (show ¬ q_cc .ge y1 y0 = true from fun z => c1 (of_decide_eq_true z))]
    refine Eq.trans ?_ (if_neg c1).symm
    refine (q_blk (Y := mX4_read) (q_dcC dX4_read_34 (q_dcC dX4_read_35 (q_dcC dX4_read_36 q_dcN))) (show _ = some (37, [.ref 84, .ref 69, .int x2, .int x3, .int x4], [.int x3, .int x2, .ref 69]) from rfl)).trans ?_
    exact K_calV (d := d) (Y := mX4_read) (Z := mX6_get) (vs := [.int x2, .int x3]) (rest := []) (la := [.ref 69, .int x2, .int x3]) dX4_read_37 rfl rfl rfl rfl ⟨by decide, rfl⟩ (Nat.le_of_ble_eq_true rfl) rfl (Nat.le_of_ble_eq_true rfl)
theorem B_X4_read_40a {o : q_H} (d : Nat) (x2 x3 x4 y0 : Int32) (g : Nat → Nat → Int32) : q_sem (d + 1) mX4_read 40 [.ref 84, .ref 69, .int x2, .int x3, .int x4] [.int y0] (q_K o g) = (q_sem d mX11_within 0 [.int y0, .int 0, .int 6] [] (q_K o g)).bind (fun r => q_sem (d + 1) mX4_read 50 [.ref 84, .ref 69, .int x2, .int x3, .int y0] (r.1.toList ++ []) r.2) := by
  refine (q_blk (Y := mX4_read) (q_dcC dX4_read_40 (q_dcC dX4_read_42 (q_dcC dX4_read_44 (q_dcC dX4_read_45 q_dcN)))) (show _ = some (47, [.ref 84, .ref 69, .int x2, .int x3, .int y0], [.int 6, .int 0, .int y0]) from rfl)).trans ?_
  exact K_calN (d := d) (Y := mX4_read) (Z := mX11_within) (vs := [.int y0, .int 0, .int 6]) (rest := []) (la := [.int y0, .int 0, .int 6]) dX4_read_47 rfl rfl rfl rfl rfl (Nat.le_of_ble_eq_true rfl) rfl (Nat.le_of_ble_eq_true rfl)
theorem B_X4_lay_0 {o : q_H} (d : Nat) (g : Nat → Nat → Int32) : q_sem (d + 1) mX4_lay 0 [.ref 84, .retAddr 0, .retAddr 0] [] (q_K o g) = (q_sem d mX4_foresee 0 [.ref 84, .retAddr 0, .retAddr 0] [] (q_K o g)).bind (fun r => q_sem (d + 1) mX4_lay 4 [.ref 84, .retAddr 0, .retAddr 0] (r.1.toList ++ []) r.2) := by
  refine (q_blk (Y := mX4_lay) (q_dcC dX4_lay_0 q_dcN) (show _ = some (1, [.ref 84, .retAddr 0, .retAddr 0], [.ref 84]) from rfl)).trans ?_
  exact K_calV (d := d) (Y := mX4_lay) (Z := mX4_foresee) (vs := []) (rest := []) (la := [.ref 84, .retAddr 0, .retAddr 0]) dX4_lay_1 rfl rfl rfl rfl ⟨by decide, rfl⟩ (Nat.le_of_ble_eq_true rfl) rfl (Nat.le_of_ble_eq_true rfl)
theorem B_X4_lay_4 {o : q_H} (d : Nat) (g : Nat → Nat → Int32) : q_sem (d + 1) mX4_lay 4 [.ref 84, .retAddr 0, .retAddr 0] [] (q_K o g) = (q_sem d mX7_clear 0 [.ref 87] [] (q_K o g)).bind (fun r => q_sem (d + 1) mX4_lay 11 [.ref 84, .retAddr 0, .retAddr 0] (r.1.toList ++ []) r.2) := by
  refine (q_blk (Y := mX4_lay) (q_dcC dX4_lay_4 q_dcN) (show _ = some (5, [.ref 84, .retAddr 0, .retAddr 0], [.ref 84]) from rfl)).trans ?_
  refine (k_getr (Y := mX4_lay) dX4_lay_5 rfl rfl ⟨by decide, rfl⟩ (by decide) rfl).trans ?_
  exact K_calV (d := d) (Y := mX4_lay) (Z := mX7_clear) (vs := []) (rest := []) (la := [.ref 87]) dX4_lay_8 rfl rfl rfl rfl ⟨by decide, rfl⟩ (Nat.le_of_ble_eq_true rfl) rfl (Nat.le_of_ble_eq_true rfl)
theorem B_X4_lay_11 {o : q_H} (d : Nat) (g : Nat → Nat → Int32) : q_sem (d) mX4_lay 11 [.ref 84, .retAddr 0, .retAddr 0] [] (q_K o g) = q_sem (d) mX4_lay 13 [.ref 84, .int 0, .retAddr 0] [] (q_K o g) := by
  refine (q_blk (Y := mX4_lay) (q_dcC dX4_lay_11 (q_dcC dX4_lay_12 q_dcN)) (show _ = some (13, [.ref 84, .int 0, .retAddr 0], []) from rfl)).trans ?_
  rfl
theorem B_X4_lay_13 {o : q_H} (d : Nat) (x1 : Int32) (g : Nat → Nat → Int32) : q_sem (d + 1) mX4_lay 13 [.ref 84, .int x1, .retAddr 0] [] (q_K o g) = (q_sem d mX7_size 0 [.ref 85] [] (q_K o g)).bind (fun r => q_sem (d + 1) mX4_lay 21 [.ref 84, .int x1, .retAddr 0] (r.1.toList ++ [.int x1]) r.2) := by
  refine (q_blk (Y := mX4_lay) (q_dcC dX4_lay_13 (q_dcC dX4_lay_14 q_dcN)) (show _ = some (15, [.ref 84, .int x1, .retAddr 0], [.ref 84, .int x1]) from rfl)).trans ?_
  refine (k_getr (Y := mX4_lay) dX4_lay_15 rfl rfl ⟨by decide, rfl⟩ (by decide) rfl).trans ?_
  exact K_calV (d := d) (Y := mX4_lay) (Z := mX7_size) (vs := []) (rest := [.int x1]) (la := [.ref 85]) dX4_lay_18 rfl rfl rfl rfl ⟨by decide, rfl⟩ (Nat.le_of_ble_eq_true rfl) rfl (Nat.le_of_ble_eq_true rfl)
theorem B_X4_lay_21 {o : q_H} (d : Nat) (x1 y0 y1 : Int32) (g : Nat → Nat → Int32) : q_sem (d + 1) mX4_lay 21 [.ref 84, .int x1, .retAddr 0] [.int y0, .int y1] (q_K o g) = (if y0 ≤ y1 then some (some (.int 1), q_K o g) else (q_sem d mX4_firstSet 0 [.ref 84, .int x1, .retAddr 0, .retAddr 0, .retAddr 0] [] (q_K o g)).bind (fun r => q_sem (d + 1) mX4_lay 29 [.ref 84, .int x1, .retAddr 0] (r.1.toList ++ []) r.2)) := by
  refine (q_blk (Y := mX4_lay) (q_dcC dX4_lay_21 q_dcN) (show _ = some ((if q_cc .ge y1 y0 = true then 51 else 24), [.ref 84, .int x1, .retAddr 0], []) from rfl)).trans ?_
  by_cases c1 : y0 ≤ y1
  · rw [if_pos (show q_cc .ge y1 y0 = true from decide_eq_true c1)]
    refine Eq.trans ?_ (if_pos c1).symm
    refine (q_blk (Y := mX4_lay) (q_dcC dX4_lay_51 q_dcN) (show _ = some (52, [.ref 84, .int x1, .retAddr 0], [.int 1]) from rfl)).trans ?_
    exact k_iret (Y := mX4_lay) dX4_lay_52 rfl
  · rw [if_neg (show ¬ q_cc .ge y1 y0 = true from fun z => c1 (of_decide_eq_true z))]
    refine Eq.trans ?_ (if_neg c1).symm
    refine (q_blk (Y := mX4_lay) (q_dcC dX4_lay_24 (q_dcC dX4_lay_25 q_dcN)) (show _ = some (26, [.ref 84, .int x1, .retAddr 0], [.int x1, .ref 84]) from rfl)).trans ?_
    exact K_calV (d := d) (Y := mX4_lay) (Z := mX4_firstSet) (vs := [.int x1]) (rest := []) (la := [.ref 84, .int x1, .retAddr 0, .retAddr 0, .retAddr 0]) dX4_lay_26 rfl rfl rfl rfl ⟨by decide, rfl⟩ (Nat.le_of_ble_eq_true rfl) rfl (Nat.le_of_ble_eq_true rfl)
theorem B_X4_lay_29 {o : q_H} (d : Nat) (x1 y0 : Int32) (g : Nat → Nat → Int32) : q_sem (d + 1) mX4_lay 29 [.ref 84, .int x1, .retAddr 0] [.int y0] (q_K o g) = (if 0 ≤ y0 then (q_sem d mX7_add 0 [.ref 87, .int y0, .retAddr 0] [] (q_K o g)).bind (fun r => q_sem (d + 1) mX4_lay 44 [.ref 84, .int x1, .int y0] (r.1.toList ++ []) r.2) else some (some (.int 0), q_K o g)) := by
  refine (q_blk (Y := mX4_lay) (q_dcC dX4_lay_29 (q_dcC dX4_lay_30 (q_dcC dX4_lay_31 q_dcN))) (show _ = some ((if q_cc .ge y0 0 = true then 36 else 34), [.ref 84, .int x1, .int y0], []) from rfl)).trans ?_
  by_cases c1 : 0 ≤ y0
  · rw [if_pos (show q_cc .ge y0 0 = true from decide_eq_true c1)]
    refine Eq.trans ?_ (if_pos c1).symm
    refine (q_blk (Y := mX4_lay) (q_dcC dX4_lay_36 q_dcN) (show _ = some (37, [.ref 84, .int x1, .int y0], [.ref 84]) from rfl)).trans ?_
    refine (k_getr (Y := mX4_lay) dX4_lay_37 rfl rfl ⟨by decide, rfl⟩ (by decide) rfl).trans ?_
    refine (q_blk (Y := mX4_lay) (q_dcC dX4_lay_40 q_dcN) (show _ = some (41, [.ref 84, .int x1, .int y0], [.int y0, .ref 87]) from rfl)).trans ?_
    exact K_calV (d := d) (Y := mX4_lay) (Z := mX7_add) (vs := [.int y0]) (rest := []) (la := [.ref 87, .int y0, .retAddr 0]) dX4_lay_41 rfl rfl rfl rfl ⟨by decide, rfl⟩ (Nat.le_of_ble_eq_true rfl) rfl (Nat.le_of_ble_eq_true rfl)
  · rw [if_neg (show ¬ q_cc .ge y0 0 = true from fun z => c1 (of_decide_eq_true z))]
    refine Eq.trans ?_ (if_neg c1).symm
    refine (q_blk (Y := mX4_lay) (q_dcC dX4_lay_34 q_dcN) (show _ = some (35, [.ref 84, .int x1, .int y0], [.int 0]) from rfl)).trans ?_
    exact k_iret (Y := mX4_lay) dX4_lay_35 rfl
theorem B_X4_lay_44 {o : q_H} (d : Nat) (x1 x2 y0 : Int32) (g : Nat → Nat → Int32) : q_sem (d) mX4_lay 44 [.ref 84, .int x1, .int x2] [.int y0] (q_K o g) = q_sem (d) mX4_lay 13 [.ref 84, .int (x1 + 1), .int x2] [] (q_K o g) := by
  refine (q_blk (Y := mX4_lay) (q_dcC dX4_lay_44 (q_dcC dX4_lay_45 (q_dcC dX4_lay_48 q_dcN))) (show _ = some (13, [.ref 84, .int (x1 + 1), .int x2], []) from rfl)).trans ?_
  rfl
theorem B_X4_lay_13a {o : q_H} (d : Nat) (x1 x2 : Int32) (g : Nat → Nat → Int32) : q_sem (d + 1) mX4_lay 13 [.ref 84, .int x1, .int x2] [] (q_K o g) = (q_sem d mX7_size 0 [.ref 85] [] (q_K o g)).bind (fun r => q_sem (d + 1) mX4_lay 21 [.ref 84, .int x1, .int x2] (r.1.toList ++ [.int x1]) r.2) := by
  refine (q_blk (Y := mX4_lay) (q_dcC dX4_lay_13 (q_dcC dX4_lay_14 q_dcN)) (show _ = some (15, [.ref 84, .int x1, .int x2], [.ref 84, .int x1]) from rfl)).trans ?_
  refine (k_getr (Y := mX4_lay) dX4_lay_15 rfl rfl ⟨by decide, rfl⟩ (by decide) rfl).trans ?_
  exact K_calV (d := d) (Y := mX4_lay) (Z := mX7_size) (vs := []) (rest := [.int x1]) (la := [.ref 85]) dX4_lay_18 rfl rfl rfl rfl ⟨by decide, rfl⟩ (Nat.le_of_ble_eq_true rfl) rfl (Nat.le_of_ble_eq_true rfl)
theorem B_X4_lay_21a {o : q_H} (d : Nat) (x1 x2 y0 y1 : Int32) (g : Nat → Nat → Int32) : q_sem (d + 1) mX4_lay 21 [.ref 84, .int x1, .int x2] [.int y0, .int y1] (q_K o g) = (if y0 ≤ y1 then some (some (.int 1), q_K o g) else (q_sem d mX4_firstSet 0 [.ref 84, .int x1, .retAddr 0, .retAddr 0, .retAddr 0] [] (q_K o g)).bind (fun r => q_sem (d + 1) mX4_lay 29 [.ref 84, .int x1, .int x2] (r.1.toList ++ []) r.2)) := by
  refine (q_blk (Y := mX4_lay) (q_dcC dX4_lay_21 q_dcN) (show _ = some ((if q_cc .ge y1 y0 = true then 51 else 24), [.ref 84, .int x1, .int x2], []) from rfl)).trans ?_
  by_cases c1 : y0 ≤ y1
  · rw [if_pos (show q_cc .ge y1 y0 = true from decide_eq_true c1)]
    refine Eq.trans ?_ (if_pos c1).symm
    refine (q_blk (Y := mX4_lay) (q_dcC dX4_lay_51 q_dcN) (show _ = some (52, [.ref 84, .int x1, .int x2], [.int 1]) from rfl)).trans ?_
    exact k_iret (Y := mX4_lay) dX4_lay_52 rfl
  · rw [if_neg (show ¬ q_cc .ge y1 y0 = true from fun z => c1 (of_decide_eq_true z))]
    refine Eq.trans ?_ (if_neg c1).symm
    refine (q_blk (Y := mX4_lay) (q_dcC dX4_lay_24 (q_dcC dX4_lay_25 q_dcN)) (show _ = some (26, [.ref 84, .int x1, .int x2], [.int x1, .ref 84]) from rfl)).trans ?_
    exact K_calV (d := d) (Y := mX4_lay) (Z := mX4_firstSet) (vs := [.int x1]) (rest := []) (la := [.ref 84, .int x1, .retAddr 0, .retAddr 0, .retAddr 0]) dX4_lay_26 rfl rfl rfl rfl ⟨by decide, rfl⟩ (Nat.le_of_ble_eq_true rfl) rfl (Nat.le_of_ble_eq_true rfl)
theorem B_X4_lay_29a {o : q_H} (d : Nat) (x1 x2 y0 : Int32) (g : Nat → Nat → Int32) : q_sem (d + 1) mX4_lay 29 [.ref 84, .int x1, .int x2] [.int y0] (q_K o g) = (if 0 ≤ y0 then (q_sem d mX7_add 0 [.ref 87, .int y0, .retAddr 0] [] (q_K o g)).bind (fun r => q_sem (d + 1) mX4_lay 44 [.ref 84, .int x1, .int y0] (r.1.toList ++ []) r.2) else some (some (.int 0), q_K o g)) := by
  refine (q_blk (Y := mX4_lay) (q_dcC dX4_lay_29 (q_dcC dX4_lay_30 (q_dcC dX4_lay_31 q_dcN))) (show _ = some ((if q_cc .ge y0 0 = true then 36 else 34), [.ref 84, .int x1, .int y0], []) from rfl)).trans ?_
  by_cases c1 : 0 ≤ y0
  · rw [if_pos (show q_cc .ge y0 0 = true from decide_eq_true c1)]
    refine Eq.trans ?_ (if_pos c1).symm
    refine (q_blk (Y := mX4_lay) (q_dcC dX4_lay_36 q_dcN) (show _ = some (37, [.ref 84, .int x1, .int y0], [.ref 84]) from rfl)).trans ?_
    refine (k_getr (Y := mX4_lay) dX4_lay_37 rfl rfl ⟨by decide, rfl⟩ (by decide) rfl).trans ?_
    refine (q_blk (Y := mX4_lay) (q_dcC dX4_lay_40 q_dcN) (show _ = some (41, [.ref 84, .int x1, .int y0], [.int y0, .ref 87]) from rfl)).trans ?_
    exact K_calV (d := d) (Y := mX4_lay) (Z := mX7_add) (vs := [.int y0]) (rest := []) (la := [.ref 87, .int y0, .retAddr 0]) dX4_lay_41 rfl rfl rfl rfl ⟨by decide, rfl⟩ (Nat.le_of_ble_eq_true rfl) rfl (Nat.le_of_ble_eq_true rfl)
  · rw [if_neg (show ¬ q_cc .ge y0 0 = true from fun z => c1 (of_decide_eq_true z))]
    refine Eq.trans ?_ (if_neg c1).symm
    refine (q_blk (Y := mX4_lay) (q_dcC dX4_lay_34 q_dcN) (show _ = some (35, [.ref 84, .int x1, .int y0], [.int 0]) from rfl)).trans ?_
    exact k_iret (Y := mX4_lay) dX4_lay_35 rfl
theorem B_X4_day_0 {o : q_H} (d : Nat) (x1 : Int32) (g : Nat → Nat → Int32) : q_sem (d + 1) mX4_day 0 [.ref 84, .int x1] [] (q_K o g) = (q_sem d mX7_get 0 [.ref 87, .int x1, .int 0] [] (q_K o g)).bind (fun r => q_sem (d + 1) mX4_day 9 [.ref 84, .int x1] (r.1.toList ++ []) r.2) := by
  refine (q_blk (Y := mX4_day) (q_dcC dX4_day_0 q_dcN) (show _ = some (1, [.ref 84, .int x1], [.ref 84]) from rfl)).trans ?_
  refine (k_getr (Y := mX4_day) dX4_day_1 rfl rfl ⟨by decide, rfl⟩ (by decide) rfl).trans ?_
  refine (q_blk (Y := mX4_day) (q_dcC dX4_day_4 (q_dcC dX4_day_5 q_dcN)) (show _ = some (6, [.ref 84, .int x1], [.int 0, .int x1, .ref 87]) from rfl)).trans ?_
  exact K_calV (d := d) (Y := mX4_day) (Z := mX7_get) (vs := [.int x1, .int 0]) (rest := []) (la := [.ref 87, .int x1, .int 0]) dX4_day_6 rfl rfl rfl rfl ⟨by decide, rfl⟩ (Nat.le_of_ble_eq_true rfl) rfl (Nat.le_of_ble_eq_true rfl)
theorem B_X4_day_9 {o : q_H} (d : Nat) (x1 y0 : Int32) (g : Nat → Nat → Int32) : q_sem (d) mX4_day 9 [.ref 84, .int x1] [.int y0] (q_K o g) = some (some (.int y0), q_K o g) := by
  exact k_iret (Y := mX4_day) dX4_day_9 rfl
theorem B_X4_foresee_0 {o : q_H} (d : Nat) (g : Nat → Nat → Int32) : q_sem (d + 1) mX4_foresee 0 [.ref 84, .retAddr 0, .retAddr 0] [] (q_K o g) = (q_sem d mX7_clear 0 [.ref 89] [] (q_K o g)).bind (fun r => q_sem (d + 1) mX4_foresee 7 [.ref 84, .retAddr 0, .retAddr 0] (r.1.toList ++ []) r.2) := by
  refine (q_blk (Y := mX4_foresee) (q_dcC dX4_foresee_0 q_dcN) (show _ = some (1, [.ref 84, .retAddr 0, .retAddr 0], [.ref 84]) from rfl)).trans ?_
  refine (k_getr (Y := mX4_foresee) dX4_foresee_1 rfl rfl ⟨by decide, rfl⟩ (by decide) rfl).trans ?_
  exact K_calV (d := d) (Y := mX4_foresee) (Z := mX7_clear) (vs := []) (rest := []) (la := [.ref 89]) dX4_foresee_4 rfl rfl rfl rfl ⟨by decide, rfl⟩ (Nat.le_of_ble_eq_true rfl) rfl (Nat.le_of_ble_eq_true rfl)
theorem B_X4_foresee_7 {o : q_H} (d : Nat) (g : Nat → Nat → Int32) : q_sem (d) mX4_foresee 7 [.ref 84, .retAddr 0, .retAddr 0] [] (q_K o g) = q_sem (d) mX4_foresee 9 [.ref 84, .int 0, .retAddr 0] [] (q_K o g) := by
  refine (q_blk (Y := mX4_foresee) (q_dcC dX4_foresee_7 (q_dcC dX4_foresee_8 q_dcN)) (show _ = some (9, [.ref 84, .int 0, .retAddr 0], []) from rfl)).trans ?_
  rfl
theorem B_X4_foresee_9 {o : q_H} (d : Nat) (x1 : Int32) (g : Nat → Nat → Int32) : q_sem (d + 1) mX4_foresee 9 [.ref 84, .int x1, .retAddr 0] [] (q_K o g) = (q_sem d mX7_size 0 [.ref 85] [] (q_K o g)).bind (fun r => q_sem (d + 1) mX4_foresee 17 [.ref 84, .int x1, .retAddr 0] (r.1.toList ++ [.int x1]) r.2) := by
  refine (q_blk (Y := mX4_foresee) (q_dcC dX4_foresee_9 (q_dcC dX4_foresee_10 q_dcN)) (show _ = some (11, [.ref 84, .int x1, .retAddr 0], [.ref 84, .int x1]) from rfl)).trans ?_
  refine (k_getr (Y := mX4_foresee) dX4_foresee_11 rfl rfl ⟨by decide, rfl⟩ (by decide) rfl).trans ?_
  exact K_calV (d := d) (Y := mX4_foresee) (Z := mX7_size) (vs := []) (rest := [.int x1]) (la := [.ref 85]) dX4_foresee_14 rfl rfl rfl rfl ⟨by decide, rfl⟩ (Nat.le_of_ble_eq_true rfl) rfl (Nat.le_of_ble_eq_true rfl)
theorem B_X4_foresee_17 {o : q_H} (d : Nat) (x1 y0 y1 : Int32) (g : Nat → Nat → Int32) : q_sem (d + 1) mX4_foresee 17 [.ref 84, .int x1, .retAddr 0] [.int y0, .int y1] (q_K o g) = (if y0 < y1 then (q_sem d mX7_size 0 [.ref 85] [] (q_K o g)).bind (fun r => q_sem (d + 1) mX4_foresee 42 [.ref 84, .int x1, .retAddr 0] (r.1.toList ++ []) r.2) else (q_sem d mX7_add 0 [.ref 89, .int 0, .retAddr 0] [] (q_K o g)).bind (fun r => q_sem (d + 1) mX4_foresee 28 [.ref 84, .int x1, .retAddr 0] (r.1.toList ++ []) r.2)) := by
  refine (q_blk (Y := mX4_foresee) (q_dcC dX4_foresee_17 q_dcN) (show _ = some ((if q_cc .gt y1 y0 = true then 35 else 20), [.ref 84, .int x1, .retAddr 0], []) from rfl)).trans ?_
  by_cases c1 : y0 < y1
  · rw [if_pos (show q_cc .gt y1 y0 = true from decide_eq_true c1)]
    refine Eq.trans ?_ (if_pos c1).symm
    refine (q_blk (Y := mX4_foresee) (q_dcC dX4_foresee_35 q_dcN) (show _ = some (36, [.ref 84, .int x1, .retAddr 0], [.ref 84]) from rfl)).trans ?_
    refine (k_getr (Y := mX4_foresee) dX4_foresee_36 rfl rfl ⟨by decide, rfl⟩ (by decide) rfl).trans ?_
    exact K_calV (d := d) (Y := mX4_foresee) (Z := mX7_size) (vs := []) (rest := []) (la := [.ref 85]) dX4_foresee_39 rfl rfl rfl rfl ⟨by decide, rfl⟩ (Nat.le_of_ble_eq_true rfl) rfl (Nat.le_of_ble_eq_true rfl)
  · rw [if_neg (show ¬ q_cc .gt y1 y0 = true from fun z => c1 (of_decide_eq_true z))]
    refine Eq.trans ?_ (if_neg c1).symm
    refine (q_blk (Y := mX4_foresee) (q_dcC dX4_foresee_20 q_dcN) (show _ = some (21, [.ref 84, .int x1, .retAddr 0], [.ref 84]) from rfl)).trans ?_
    refine (k_getr (Y := mX4_foresee) dX4_foresee_21 rfl rfl ⟨by decide, rfl⟩ (by decide) rfl).trans ?_
    refine (q_blk (Y := mX4_foresee) (q_dcC dX4_foresee_24 q_dcN) (show _ = some (25, [.ref 84, .int x1, .retAddr 0], [.int 0, .ref 89]) from rfl)).trans ?_
    exact K_calV (d := d) (Y := mX4_foresee) (Z := mX7_add) (vs := [.int 0]) (rest := []) (la := [.ref 89, .int 0, .retAddr 0]) dX4_foresee_25 rfl rfl rfl rfl ⟨by decide, rfl⟩ (Nat.le_of_ble_eq_true rfl) rfl (Nat.le_of_ble_eq_true rfl)
theorem B_X4_foresee_42 {o : q_H} (d : Nat) (x1 y0 : Int32) (g : Nat → Nat → Int32) : q_sem (d) mX4_foresee 42 [.ref 84, .int x1, .retAddr 0] [.int y0] (q_K o g) = q_sem (d) mX4_foresee 43 [.ref 84, .int y0, .retAddr 0] [] (q_K o g) := by
  refine (q_blk (Y := mX4_foresee) (q_dcC dX4_foresee_42 q_dcN) (show _ = some (43, [.ref 84, .int y0, .retAddr 0], []) from rfl)).trans ?_
  rfl
theorem B_X4_foresee_28 {o : q_H} (d : Nat) (x1 y0 : Int32) (g : Nat → Nat → Int32) : q_sem (d) mX4_foresee 28 [.ref 84, .int x1, .retAddr 0] [.int y0] (q_K o g) = q_sem (d) mX4_foresee 9 [.ref 84, .int (x1 + 1), .retAddr 0] [] (q_K o g) := by
  refine (q_blk (Y := mX4_foresee) (q_dcC dX4_foresee_28 (q_dcC dX4_foresee_29 (q_dcC dX4_foresee_32 q_dcN))) (show _ = some (9, [.ref 84, .int (x1 + 1), .retAddr 0], []) from rfl)).trans ?_
  rfl
theorem B_X4_foresee_43 {o : q_H} (d : Nat) (x1 : Int32) (g : Nat → Nat → Int32) : q_sem (d) mX4_foresee 43 [.ref 84, .int x1, .retAddr 0] [] (q_K o g) = (if x1 < 0 then some (none, q_K o g) else q_sem (d) mX4_foresee 49 [.ref 84, .int x1, .int 0] [] (q_K o g)) := by
  refine (q_blk (Y := mX4_foresee) (q_dcC dX4_foresee_43 (q_dcC dX4_foresee_44 q_dcN)) (show _ = some ((if q_cc .lt x1 0 = true then 101 else 47), [.ref 84, .int x1, .retAddr 0], []) from rfl)).trans ?_
  by_cases c1 : x1 < 0
  · rw [if_pos (show q_cc .lt x1 0 = true from decide_eq_true c1)]
    refine Eq.trans ?_ (if_pos c1).symm
    exact k_vret (Y := mX4_foresee) dX4_foresee_101 rfl
  · rw [if_neg (show ¬ q_cc .lt x1 0 = true from fun z => c1 (of_decide_eq_true z))]
    refine Eq.trans ?_ (if_neg c1).symm
    refine (q_blk (Y := mX4_foresee) (q_dcC dX4_foresee_47 (q_dcC dX4_foresee_48 q_dcN)) (show _ = some (49, [.ref 84, .int x1, .int 0], []) from rfl)).trans ?_
    rfl
theorem B_X4_foresee_49 {o : q_H} (d : Nat) (x1 x2 : Int32) (g : Nat → Nat → Int32) : q_sem (d + 1) mX4_foresee 49 [.ref 84, .int x1, .int x2] [] (q_K o g) = (if 6 < x2 then q_sem (d + 1) mX4_foresee 43 [.ref 84, .int (x1 + (-1)), .int x2] [] (q_K o g) else (q_sem d mX7_size 0 [.ref 85] [] (q_K o g)).bind (fun r => q_sem (d + 1) mX4_foresee 69 [.ref 84, .int x1, .int x2] (r.1.toList ++ [.int x1, .int x2, .int x1, .ref 89]) r.2)) := by
  refine (q_blk (Y := mX4_foresee) (q_dcC dX4_foresee_49 (q_dcC dX4_foresee_50 (q_dcC dX4_foresee_52 q_dcN))) (show _ = some ((if q_cc .gt x2 6 = true then 95 else 55), [.ref 84, .int x1, .int x2], []) from rfl)).trans ?_
  by_cases c1 : 6 < x2
  · rw [if_pos (show q_cc .gt x2 6 = true from decide_eq_true c1)]
    refine Eq.trans ?_ (if_pos c1).symm
    refine (q_blk (Y := mX4_foresee) (q_dcC dX4_foresee_95 (q_dcC dX4_foresee_98 q_dcN)) (show _ = some (43, [.ref 84, .int (x1 + (-1)), .int x2], []) from rfl)).trans ?_
    rfl
  · rw [if_neg (show ¬ q_cc .gt x2 6 = true from fun z => c1 (of_decide_eq_true z))]
    refine Eq.trans ?_ (if_neg c1).symm
    refine (q_blk (Y := mX4_foresee) (q_dcC dX4_foresee_55 q_dcN) (show _ = some (56, [.ref 84, .int x1, .int x2], [.ref 84]) from rfl)).trans ?_
    refine (k_getr (Y := mX4_foresee) dX4_foresee_56 rfl rfl ⟨by decide, rfl⟩ (by decide) rfl).trans ?_
    refine (q_blk (Y := mX4_foresee) (q_dcC dX4_foresee_59 (q_dcC dX4_foresee_60 (q_dcC dX4_foresee_61 (q_dcC dX4_foresee_62 q_dcN)))) (show _ = some (63, [.ref 84, .int x1, .int x2], [.ref 84, .int x1, .int x2, .int x1, .ref 89]) from rfl)).trans ?_
    refine (k_getr (Y := mX4_foresee) dX4_foresee_63 rfl rfl ⟨by decide, rfl⟩ (by decide) rfl).trans ?_
    exact K_calV (d := d) (Y := mX4_foresee) (Z := mX7_size) (vs := []) (rest := [.int x1, .int x2, .int x1, .ref 89]) (la := [.ref 85]) dX4_foresee_66 rfl rfl rfl rfl ⟨by decide, rfl⟩ (Nat.le_of_ble_eq_true rfl) rfl (Nat.le_of_ble_eq_true rfl)
theorem B_X4_foresee_43a {o : q_H} (d : Nat) (x1 x2 : Int32) (g : Nat → Nat → Int32) : q_sem (d) mX4_foresee 43 [.ref 84, .int x1, .int x2] [] (q_K o g) = (if x1 < 0 then some (none, q_K o g) else q_sem (d) mX4_foresee 49 [.ref 84, .int x1, .int 0] [] (q_K o g)) := by
  refine (q_blk (Y := mX4_foresee) (q_dcC dX4_foresee_43 (q_dcC dX4_foresee_44 q_dcN)) (show _ = some ((if q_cc .lt x1 0 = true then 101 else 47), [.ref 84, .int x1, .int x2], []) from rfl)).trans ?_
  by_cases c1 : x1 < 0
  · rw [if_pos (show q_cc .lt x1 0 = true from decide_eq_true c1)]
    refine Eq.trans ?_ (if_pos c1).symm
    exact k_vret (Y := mX4_foresee) dX4_foresee_101 rfl
  · rw [if_neg (show ¬ q_cc .lt x1 0 = true from fun z => c1 (of_decide_eq_true z))]
    refine Eq.trans ?_ (if_neg c1).symm
    refine (q_blk (Y := mX4_foresee) (q_dcC dX4_foresee_47 (q_dcC dX4_foresee_48 q_dcN)) (show _ = some (49, [.ref 84, .int x1, .int 0], []) from rfl)).trans ?_
    rfl
theorem B_X4_foresee_69 {o : q_H} (d : Nat) (x1 x2 y0 y1 y2 y3 : Int32) (g : Nat → Nat → Int32) : q_sem (d + 1) mX4_foresee 69 [.ref 84, .int x1, .int x2] [.int y0, .int y1, .int y2, .int y3, .ref 89] (q_K o g) = (if y1 = y0 then (q_sem d mX7_write 0 [.ref 89, .int y3, .int y2, .int 1] [] (q_K o g)).bind (fun r => q_sem (d + 1) mX4_foresee 89 [.ref 84, .int x1, .int x2] (r.1.toList ++ []) r.2) else (q_sem d mX4_canFill 0 [.ref 84, .int x1, .int x2, .retAddr 0, .retAddr 0, .retAddr 0] [] (q_K o g)).bind (fun r => q_sem (d + 1) mX4_foresee 78 [.ref 84, .int x1, .int x2] (r.1.toList ++ [.int y2, .int y3, .ref 89]) r.2)) := by
  refine (q_blk (Y := mX4_foresee) (q_dcC dX4_foresee_69 q_dcN) (show _ = some ((if q_cc .eq y1 y0 = true then 81 else 72), [.ref 84, .int x1, .int x2], [.int y2, .int y3, .ref 89]) from rfl)).trans ?_
  by_cases c1 : y1 = y0
  · rw [if_pos (show q_cc .eq y1 y0 = true from decide_eq_true c1)]
    refine Eq.trans ?_ (if_pos c1).symm
    refine (q_blk (Y := mX4_foresee) (q_dcC dX4_foresee_81 (q_dcC dX4_foresee_82 q_dcN)) (show _ = some (86, [.ref 84, .int x1, .int x2], [.int 1, .int y2, .int y3, .ref 89]) from rfl)).trans ?_
    exact K_calV (d := d) (Y := mX4_foresee) (Z := mX7_write) (vs := [.int y3, .int y2, .int 1]) (rest := []) (la := [.ref 89, .int y3, .int y2, .int 1]) dX4_foresee_86 rfl rfl rfl rfl ⟨by decide, rfl⟩ (Nat.le_of_ble_eq_true rfl) rfl (Nat.le_of_ble_eq_true rfl)
  · rw [if_neg (show ¬ q_cc .eq y1 y0 = true from fun z => c1 (of_decide_eq_true z))]
    refine Eq.trans ?_ (if_neg c1).symm
    refine (q_blk (Y := mX4_foresee) (q_dcC dX4_foresee_72 (q_dcC dX4_foresee_73 (q_dcC dX4_foresee_74 q_dcN))) (show _ = some (75, [.ref 84, .int x1, .int x2], [.int x2, .int x1, .ref 84, .int y2, .int y3, .ref 89]) from rfl)).trans ?_
    exact K_calV (d := d) (Y := mX4_foresee) (Z := mX4_canFill) (vs := [.int x1, .int x2]) (rest := [.int y2, .int y3, .ref 89]) (la := [.ref 84, .int x1, .int x2, .retAddr 0, .retAddr 0, .retAddr 0]) dX4_foresee_75 rfl rfl rfl rfl ⟨by decide, rfl⟩ (Nat.le_of_ble_eq_true rfl) rfl (Nat.le_of_ble_eq_true rfl)
theorem B_X4_foresee_89 {o : q_H} (d : Nat) (x1 x2 : Int32) (g : Nat → Nat → Int32) : q_sem (d) mX4_foresee 89 [.ref 84, .int x1, .int x2] [] (q_K o g) = q_sem (d) mX4_foresee 49 [.ref 84, .int x1, .int (x2 + 1)] [] (q_K o g) := by
  refine (q_blk (Y := mX4_foresee) (q_dcC dX4_foresee_89 (q_dcC dX4_foresee_92 q_dcN)) (show _ = some (49, [.ref 84, .int x1, .int (x2 + 1)], []) from rfl)).trans ?_
  rfl
theorem B_X4_foresee_78 {o : q_H} (d : Nat) (x1 x2 y0 y1 y2 : Int32) (g : Nat → Nat → Int32) : q_sem (d + 1) mX4_foresee 78 [.ref 84, .int x1, .int x2] [.int y0, .int y1, .int y2, .ref 89] (q_K o g) = (if y0 = 0 then (q_sem d mX7_write 0 [.ref 89, .int y2, .int y1, .int 0] [] (q_K o g)).bind (fun r => q_sem (d + 1) mX4_foresee 89 [.ref 84, .int x1, .int x2] (r.1.toList ++ []) r.2) else (q_sem d mX7_write 0 [.ref 89, .int y2, .int y1, .int 1] [] (q_K o g)).bind (fun r => q_sem (d + 1) mX4_foresee 89 [.ref 84, .int x1, .int x2] (r.1.toList ++ []) r.2)) := by
  refine (q_blk (Y := mX4_foresee) (q_dcC dX4_foresee_78 q_dcN) (show _ = some ((if q_cc .eq y0 0 = true then 85 else 81), [.ref 84, .int x1, .int x2], [.int y1, .int y2, .ref 89]) from rfl)).trans ?_
  by_cases c1 : y0 = 0
  · rw [if_pos (show q_cc .eq y0 0 = true from decide_eq_true c1)]
    refine Eq.trans ?_ (if_pos c1).symm
    refine (q_blk (Y := mX4_foresee) (q_dcC dX4_foresee_85 q_dcN) (show _ = some (86, [.ref 84, .int x1, .int x2], [.int 0, .int y1, .int y2, .ref 89]) from rfl)).trans ?_
    exact K_calV (d := d) (Y := mX4_foresee) (Z := mX7_write) (vs := [.int y2, .int y1, .int 0]) (rest := []) (la := [.ref 89, .int y2, .int y1, .int 0]) dX4_foresee_86 rfl rfl rfl rfl ⟨by decide, rfl⟩ (Nat.le_of_ble_eq_true rfl) rfl (Nat.le_of_ble_eq_true rfl)
  · rw [if_neg (show ¬ q_cc .eq y0 0 = true from fun z => c1 (of_decide_eq_true z))]
    refine Eq.trans ?_ (if_neg c1).symm
    refine (q_blk (Y := mX4_foresee) (q_dcC dX4_foresee_81 (q_dcC dX4_foresee_82 q_dcN)) (show _ = some (86, [.ref 84, .int x1, .int x2], [.int 1, .int y1, .int y2, .ref 89]) from rfl)).trans ?_
    exact K_calV (d := d) (Y := mX4_foresee) (Z := mX7_write) (vs := [.int y2, .int y1, .int 1]) (rest := []) (la := [.ref 89, .int y2, .int y1, .int 1]) dX4_foresee_86 rfl rfl rfl rfl ⟨by decide, rfl⟩ (Nat.le_of_ble_eq_true rfl) rfl (Nat.le_of_ble_eq_true rfl)
theorem B_X4_canFill_0 {o : q_H} (d : Nat) (x1 x2 : Int32) (g : Nat → Nat → Int32) : q_sem (d + 1) mX4_canFill 0 [.ref 84, .int x1, .int x2, .retAddr 0, .retAddr 0, .retAddr 0] [] (q_K o g) = (q_sem d mX7_get 0 [.ref 85, .int (x1 - 1), .int 0] [] (q_K o g)).bind (fun r => q_sem (d + 1) mX4_canFill 11 [.ref 84, .int x1, .int x2, .retAddr 0, .retAddr 0, .retAddr 0] (r.1.toList ++ []) r.2) := by
  refine (q_blk (Y := mX4_canFill) (q_dcC dX4_canFill_0 q_dcN) (show _ = some (1, [.ref 84, .int x1, .int x2, .retAddr 0, .retAddr 0, .retAddr 0], [.ref 84]) from rfl)).trans ?_
  refine (k_getr (Y := mX4_canFill) dX4_canFill_1 rfl rfl ⟨by decide, rfl⟩ (by decide) rfl).trans ?_
  refine (q_blk (Y := mX4_canFill) (q_dcC dX4_canFill_4 (q_dcC dX4_canFill_5 (q_dcC dX4_canFill_6 (q_dcC dX4_canFill_7 q_dcN)))) (show _ = some (8, [.ref 84, .int x1, .int x2, .retAddr 0, .retAddr 0, .retAddr 0], [.int 0, .int (x1 - 1), .ref 85]) from rfl)).trans ?_
  exact K_calV (d := d) (Y := mX4_canFill) (Z := mX7_get) (vs := [.int (x1 - 1), .int 0]) (rest := []) (la := [.ref 85, .int (x1 - 1), .int 0]) dX4_canFill_8 rfl rfl rfl rfl ⟨by decide, rfl⟩ (Nat.le_of_ble_eq_true rfl) rfl (Nat.le_of_ble_eq_true rfl)
theorem B_X4_canFill_11 {o : q_H} (d : Nat) (x1 x2 y0 : Int32) (g : Nat → Nat → Int32) : q_sem (d + 1) mX4_canFill 11 [.ref 84, .int x1, .int x2, .retAddr 0, .retAddr 0, .retAddr 0] [.int y0] (q_K o g) = (q_sem d mX7_get 0 [.ref 85, .int x1, .int 0] [] (q_K o g)).bind (fun r => q_sem (d + 1) mX4_canFill 21 [.ref 84, .int x1, .int x2, .int y0, .retAddr 0, .retAddr 0] (r.1.toList ++ []) r.2) := by
  refine (q_blk (Y := mX4_canFill) (q_dcC dX4_canFill_11 (q_dcC dX4_canFill_12 q_dcN)) (show _ = some (13, [.ref 84, .int x1, .int x2, .int y0, .retAddr 0, .retAddr 0], [.ref 84]) from rfl)).trans ?_
  refine (k_getr (Y := mX4_canFill) dX4_canFill_13 rfl rfl ⟨by decide, rfl⟩ (by decide) rfl).trans ?_
  refine (q_blk (Y := mX4_canFill) (q_dcC dX4_canFill_16 (q_dcC dX4_canFill_17 q_dcN)) (show _ = some (18, [.ref 84, .int x1, .int x2, .int y0, .retAddr 0, .retAddr 0], [.int 0, .int x1, .ref 85]) from rfl)).trans ?_
  exact K_calV (d := d) (Y := mX4_canFill) (Z := mX7_get) (vs := [.int x1, .int 0]) (rest := []) (la := [.ref 85, .int x1, .int 0]) dX4_canFill_18 rfl rfl rfl rfl ⟨by decide, rfl⟩ (Nat.le_of_ble_eq_true rfl) rfl (Nat.le_of_ble_eq_true rfl)
theorem B_X4_canFill_21 {o : q_H} (d : Nat) (x1 x2 x3 y0 : Int32) (g : Nat → Nat → Int32) : q_sem (d) mX4_canFill 21 [.ref 84, .int x1, .int x2, .int x3, .retAddr 0, .retAddr 0] [.int y0] (q_K o g) = q_sem (d) mX4_canFill 26 [.ref 84, .int x1, .int x2, .int x3, .int y0, .int 0] [] (q_K o g) := by
  refine (q_blk (Y := mX4_canFill) (q_dcC dX4_canFill_21 (q_dcC dX4_canFill_23 (q_dcC dX4_canFill_24 q_dcN))) (show _ = some (26, [.ref 84, .int x1, .int x2, .int x3, .int y0, .int 0], []) from rfl)).trans ?_
  rfl
theorem B_X4_canFill_26 {o : q_H} (d : Nat) (x1 x2 x3 x4 x5 : Int32) (g : Nat → Nat → Int32) : q_sem (d + 1) mX4_canFill 26 [.ref 84, .int x1, .int x2, .int x3, .int x4, .int x5] [] (q_K o g) = (if x4 < x5 then some (some (.int 0), q_K o g) else (if (x3 - x2) < x5 then q_sem (d + 1) mX4_canFill 26 [.ref 84, .int x1, .int x2, .int x3, .int x4, .int (x5 + 1)] [] (q_K o g) else (if (6 - x3) < (x4 - x5) then q_sem (d + 1) mX4_canFill 26 [.ref 84, .int x1, .int x2, .int x3, .int x4, .int (x5 + 1)] [] (q_K o g) else (q_sem d mX7_get 0 [.ref 89, .int (x1 + 1), .int x5] [] (q_K o g)).bind (fun r => q_sem (d + 1) mX4_canFill 65 [.ref 84, .int x1, .int x2, .int x3, .int x4, .int x5] (r.1.toList ++ []) r.2)))) := by
  refine (q_blk (Y := mX4_canFill) (q_dcC dX4_canFill_26 (q_dcC dX4_canFill_28 (q_dcC dX4_canFill_30 q_dcN))) (show _ = some ((if q_cc .gt x5 x4 = true then 76 else 33), [.ref 84, .int x1, .int x2, .int x3, .int x4, .int x5], []) from rfl)).trans ?_
  by_cases c1 : x4 < x5
  · rw [if_pos (show q_cc .gt x5 x4 = true from decide_eq_true c1)]
    refine Eq.trans ?_ (if_pos c1).symm
    refine (q_blk (Y := mX4_canFill) (q_dcC dX4_canFill_76 q_dcN) (show _ = some (77, [.ref 84, .int x1, .int x2, .int x3, .int x4, .int x5], [.int 0]) from rfl)).trans ?_
    exact k_iret (Y := mX4_canFill) dX4_canFill_77 rfl
  · rw [if_neg (show ¬ q_cc .gt x5 x4 = true from fun z => c1 (of_decide_eq_true z))]
    refine Eq.trans ?_ (if_neg c1).symm
    refine (q_blk (Y := mX4_canFill) (q_dcC dX4_canFill_33 (q_dcC dX4_canFill_35 (q_dcC dX4_canFill_36 (q_dcC dX4_canFill_37 (q_dcC dX4_canFill_38 q_dcN))))) (show _ = some ((if q_cc .gt x5 (x3 - x2) = true then 70 else 41), [.ref 84, .int x1, .int x2, .int x3, .int x4, .int x5], []) from rfl)).trans ?_
    by_cases c2 : (x3 - x2) < x5
    · rw [if_pos (show q_cc .gt x5 (x3 - x2) = true from decide_eq_true c2)]
      refine Eq.trans ?_ (if_pos c2).symm
      refine (q_blk (Y := mX4_canFill) (q_dcC dX4_canFill_70 (q_dcC dX4_canFill_73 q_dcN)) (show _ = some (26, [.ref 84, .int x1, .int x2, .int x3, .int x4, .int (x5 + 1)], []) from rfl)).trans ?_
      rfl
    · rw [if_neg (show ¬ q_cc .gt x5 (x3 - x2) = true from fun z => c2 (of_decide_eq_true z))]
      refine Eq.trans ?_ (if_neg c2).symm
      refine (q_blk (Y := mX4_canFill) (q_dcC dX4_canFill_41 (q_dcC dX4_canFill_43 (q_dcC dX4_canFill_45 (q_dcC dX4_canFill_46 (q_dcC dX4_canFill_48 (q_dcC dX4_canFill_49 (q_dcC dX4_canFill_50 q_dcN))))))) (show _ = some ((if q_cc .gt (x4 - x5) (6 - x3) = true then 70 else 53), [.ref 84, .int x1, .int x2, .int x3, .int x4, .int x5], []) from rfl)).trans ?_
      by_cases c3 : (6 - x3) < (x4 - x5)
      · rw [if_pos (show q_cc .gt (x4 - x5) (6 - x3) = true from decide_eq_true c3)]
        refine Eq.trans ?_ (if_pos c3).symm
        refine (q_blk (Y := mX4_canFill) (q_dcC dX4_canFill_70 (q_dcC dX4_canFill_73 q_dcN)) (show _ = some (26, [.ref 84, .int x1, .int x2, .int x3, .int x4, .int (x5 + 1)], []) from rfl)).trans ?_
        rfl
      · rw [if_neg (show ¬ q_cc .gt (x4 - x5) (6 - x3) = true from fun z => c3 (of_decide_eq_true z))]
        refine Eq.trans ?_ (if_neg c3).symm
        refine (q_blk (Y := mX4_canFill) (q_dcC dX4_canFill_53 q_dcN) (show _ = some (54, [.ref 84, .int x1, .int x2, .int x3, .int x4, .int x5], [.ref 84]) from rfl)).trans ?_
        refine (k_getr (Y := mX4_canFill) dX4_canFill_54 rfl rfl ⟨by decide, rfl⟩ (by decide) rfl).trans ?_
        refine (q_blk (Y := mX4_canFill) (q_dcC dX4_canFill_57 (q_dcC dX4_canFill_58 (q_dcC dX4_canFill_59 (q_dcC dX4_canFill_60 q_dcN)))) (show _ = some (62, [.ref 84, .int x1, .int x2, .int x3, .int x4, .int x5], [.int x5, .int (x1 + 1), .ref 89]) from rfl)).trans ?_
        exact K_calV (d := d) (Y := mX4_canFill) (Z := mX7_get) (vs := [.int (x1 + 1), .int x5]) (rest := []) (la := [.ref 89, .int (x1 + 1), .int x5]) dX4_canFill_62 rfl rfl rfl rfl ⟨by decide, rfl⟩ (Nat.le_of_ble_eq_true rfl) rfl (Nat.le_of_ble_eq_true rfl)
theorem B_X4_canFill_65 {o : q_H} (d : Nat) (x1 x2 x3 x4 x5 y0 : Int32) (g : Nat → Nat → Int32) : q_sem (d) mX4_canFill 65 [.ref 84, .int x1, .int x2, .int x3, .int x4, .int x5] [.int y0] (q_K o g) = (if y0 = 0 then q_sem (d) mX4_canFill 26 [.ref 84, .int x1, .int x2, .int x3, .int x4, .int (x5 + 1)] [] (q_K o g) else some (some (.int 1), q_K o g)) := by
  refine (q_blk (Y := mX4_canFill) (q_dcC dX4_canFill_65 q_dcN) (show _ = some ((if q_cc .eq y0 0 = true then 70 else 68), [.ref 84, .int x1, .int x2, .int x3, .int x4, .int x5], []) from rfl)).trans ?_
  by_cases c1 : y0 = 0
  · rw [if_pos (show q_cc .eq y0 0 = true from decide_eq_true c1)]
    refine Eq.trans ?_ (if_pos c1).symm
    refine (q_blk (Y := mX4_canFill) (q_dcC dX4_canFill_70 (q_dcC dX4_canFill_73 q_dcN)) (show _ = some (26, [.ref 84, .int x1, .int x2, .int x3, .int x4, .int (x5 + 1)], []) from rfl)).trans ?_
    rfl
  · rw [if_neg (show ¬ q_cc .eq y0 0 = true from fun z => c1 (of_decide_eq_true z))]
    refine Eq.trans ?_ (if_neg c1).symm
    refine (q_blk (Y := mX4_canFill) (q_dcC dX4_canFill_68 q_dcN) (show _ = some (69, [.ref 84, .int x1, .int x2, .int x3, .int x4, .int x5], [.int 1]) from rfl)).trans ?_
    exact k_iret (Y := mX4_canFill) dX4_canFill_69 rfl
theorem B_X4_firstSet_0 {o : q_H} (d : Nat) (x1 : Int32) (g : Nat → Nat → Int32) : q_sem (d + 1) mX4_firstSet 0 [.ref 84, .int x1, .retAddr 0, .retAddr 0, .retAddr 0] [] (q_K o g) = (q_sem d mX7_get 0 [.ref 87, .int (x1 - 1), .int 0] [] (q_K o g)).bind (fun r => q_sem (d + 1) mX4_firstSet 11 [.ref 84, .int x1, .retAddr 0, .retAddr 0, .retAddr 0] (r.1.toList ++ []) r.2) := by
  refine (q_blk (Y := mX4_firstSet) (q_dcC dX4_firstSet_0 q_dcN) (show _ = some (1, [.ref 84, .int x1, .retAddr 0, .retAddr 0, .retAddr 0], [.ref 84]) from rfl)).trans ?_
  refine (k_getr (Y := mX4_firstSet) dX4_firstSet_1 rfl rfl ⟨by decide, rfl⟩ (by decide) rfl).trans ?_
  refine (q_blk (Y := mX4_firstSet) (q_dcC dX4_firstSet_4 (q_dcC dX4_firstSet_5 (q_dcC dX4_firstSet_6 (q_dcC dX4_firstSet_7 q_dcN)))) (show _ = some (8, [.ref 84, .int x1, .retAddr 0, .retAddr 0, .retAddr 0], [.int 0, .int (x1 - 1), .ref 87]) from rfl)).trans ?_
  exact K_calV (d := d) (Y := mX4_firstSet) (Z := mX7_get) (vs := [.int (x1 - 1), .int 0]) (rest := []) (la := [.ref 87, .int (x1 - 1), .int 0]) dX4_firstSet_8 rfl rfl rfl rfl ⟨by decide, rfl⟩ (Nat.le_of_ble_eq_true rfl) rfl (Nat.le_of_ble_eq_true rfl)
theorem B_X4_firstSet_11 {o : q_H} (d : Nat) (x1 y0 : Int32) (g : Nat → Nat → Int32) : q_sem (d + 1) mX4_firstSet 11 [.ref 84, .int x1, .retAddr 0, .retAddr 0, .retAddr 0] [.int y0] (q_K o g) = (q_sem d mX7_get 0 [.ref 87, .int (x1 - 2), .int 0] [] (q_K o g)).bind (fun r => q_sem (d + 1) mX4_firstSet 24 [.ref 84, .int x1, .int y0, .retAddr 0, .retAddr 0] (r.1.toList ++ [.int y0]) r.2) := by
  refine (q_blk (Y := mX4_firstSet) (q_dcC dX4_firstSet_11 (q_dcC dX4_firstSet_12 (q_dcC dX4_firstSet_13 q_dcN))) (show _ = some (14, [.ref 84, .int x1, .int y0, .retAddr 0, .retAddr 0], [.ref 84, .int y0]) from rfl)).trans ?_
  refine (k_getr (Y := mX4_firstSet) dX4_firstSet_14 rfl rfl ⟨by decide, rfl⟩ (by decide) rfl).trans ?_
  refine (q_blk (Y := mX4_firstSet) (q_dcC dX4_firstSet_17 (q_dcC dX4_firstSet_18 (q_dcC dX4_firstSet_19 (q_dcC dX4_firstSet_20 q_dcN)))) (show _ = some (21, [.ref 84, .int x1, .int y0, .retAddr 0, .retAddr 0], [.int 0, .int (x1 - 2), .ref 87, .int y0]) from rfl)).trans ?_
  exact K_calV (d := d) (Y := mX4_firstSet) (Z := mX7_get) (vs := [.int (x1 - 2), .int 0]) (rest := [.int y0]) (la := [.ref 87, .int (x1 - 2), .int 0]) dX4_firstSet_21 rfl rfl rfl rfl ⟨by decide, rfl⟩ (Nat.le_of_ble_eq_true rfl) rfl (Nat.le_of_ble_eq_true rfl)
theorem B_X4_firstSet_24 {o : q_H} (d : Nat) (x1 x2 y0 y1 : Int32) (g : Nat → Nat → Int32) : q_sem (d) mX4_firstSet 24 [.ref 84, .int x1, .int x2, .retAddr 0, .retAddr 0] [.int y0, .int y1] (q_K o g) = q_sem (d) mX4_firstSet 29 [.ref 84, .int x1, .int x2, .int (y1 &&& y0), .int 0] [] (q_K o g) := by
  refine (q_blk (Y := mX4_firstSet) (q_dcC dX4_firstSet_24 (q_dcC dX4_firstSet_25 (q_dcC dX4_firstSet_26 (q_dcC dX4_firstSet_27 q_dcN)))) (show _ = some (29, [.ref 84, .int x1, .int x2, .int (y1 &&& y0), .int 0], []) from rfl)).trans ?_
  rfl
theorem B_X4_firstSet_29 {o : q_H} (d : Nat) (x1 x2 x3 x4 : Int32) (g : Nat → Nat → Int32) : q_sem (d + 1) mX4_firstSet 29 [.ref 84, .int x1, .int x2, .int x3, .int x4] [] (q_K o g) = (if 64 ≤ x4 then some (some (.int (-1)), q_K o g) else (q_sem d mJ6_bitCount_0f7a4 0 [.int x4] [] (q_K o g)).bind (fun r => q_sem (d + 1) mX4_firstSet 41 [.ref 84, .int x1, .int x2, .int x3, .int x4] (r.1.toList ++ []) r.2)) := by
  refine (q_blk (Y := mX4_firstSet) (q_dcC dX4_firstSet_29 (q_dcC dX4_firstSet_31 (q_dcC dX4_firstSet_33 q_dcN))) (show _ = some ((if q_cc .ge x4 64 = true then 89 else 36), [.ref 84, .int x1, .int x2, .int x3, .int x4], []) from rfl)).trans ?_
  by_cases c1 : 64 ≤ x4
  · rw [if_pos (show q_cc .ge x4 64 = true from decide_eq_true c1)]
    refine Eq.trans ?_ (if_pos c1).symm
    refine (q_blk (Y := mX4_firstSet) (q_dcC dX4_firstSet_89 q_dcN) (show _ = some (90, [.ref 84, .int x1, .int x2, .int x3, .int x4], [.int (-1)]) from rfl)).trans ?_
    exact k_iret (Y := mX4_firstSet) dX4_firstSet_90 rfl
  · rw [if_neg (show ¬ q_cc .ge x4 64 = true from fun z => c1 (of_decide_eq_true z))]
    refine Eq.trans ?_ (if_neg c1).symm
    refine (q_blk (Y := mX4_firstSet) (q_dcC dX4_firstSet_36 q_dcN) (show _ = some (38, [.ref 84, .int x1, .int x2, .int x3, .int x4], [.int x4]) from rfl)).trans ?_
    exact K_calS (d := d) (Y := mX4_firstSet) (Z := mJ6_bitCount_0f7a4) (vs := [.int x4]) (rest := []) (la := [.int x4]) dX4_firstSet_38 rfl rfl rfl rfl (Nat.le_of_ble_eq_true rfl) rfl (Nat.le_of_ble_eq_true rfl)
theorem B_X4_firstSet_41 {o : q_H} (d : Nat) (x1 x2 x3 x4 y0 : Int32) (g : Nat → Nat → Int32) : q_sem (d + 1) mX4_firstSet 41 [.ref 84, .int x1, .int x2, .int x3, .int x4] [.int y0] (q_K o g) = (q_sem d mX7_get 0 [.ref 85, .int x1, .int 0] [] (q_K o g)).bind (fun r => q_sem (d + 1) mX4_firstSet 50 [.ref 84, .int x1, .int x2, .int x3, .int x4] (r.1.toList ++ [.int y0]) r.2) := by
  refine (q_blk (Y := mX4_firstSet) (q_dcC dX4_firstSet_41 q_dcN) (show _ = some (42, [.ref 84, .int x1, .int x2, .int x3, .int x4], [.ref 84, .int y0]) from rfl)).trans ?_
  refine (k_getr (Y := mX4_firstSet) dX4_firstSet_42 rfl rfl ⟨by decide, rfl⟩ (by decide) rfl).trans ?_
  refine (q_blk (Y := mX4_firstSet) (q_dcC dX4_firstSet_45 (q_dcC dX4_firstSet_46 q_dcN)) (show _ = some (47, [.ref 84, .int x1, .int x2, .int x3, .int x4], [.int 0, .int x1, .ref 85, .int y0]) from rfl)).trans ?_
  exact K_calV (d := d) (Y := mX4_firstSet) (Z := mX7_get) (vs := [.int x1, .int 0]) (rest := [.int y0]) (la := [.ref 85, .int x1, .int 0]) dX4_firstSet_47 rfl rfl rfl rfl ⟨by decide, rfl⟩ (Nat.le_of_ble_eq_true rfl) rfl (Nat.le_of_ble_eq_true rfl)
theorem B_X4_firstSet_50 {o : q_H} (d : Nat) (x1 x2 x3 x4 y0 y1 : Int32) (g : Nat → Nat → Int32) : q_sem (d + 1) mX4_firstSet 50 [.ref 84, .int x1, .int x2, .int x3, .int x4] [.int y0, .int y1] (q_K o g) = (if y1 = y0 then (if (x4 &&& x3) = 0 then (q_sem d mJ6_bitCount_0f7a4 0 [.int (x4 &&& x2)] [] (q_K o g)).bind (fun r => q_sem (d + 1) mX4_firstSet 74 [.ref 84, .int x1, .int x2, .int x3, .int x4] (r.1.toList ++ [.int (x1 + 1), .ref 89]) r.2) else q_sem (d + 1) mX4_firstSet 29 [.ref 84, .int x1, .int x2, .int x3, .int (x4 + 1)] [] (q_K o g)) else q_sem (d + 1) mX4_firstSet 29 [.ref 84, .int x1, .int x2, .int x3, .int (x4 + 1)] [] (q_K o g)) := by
  refine (q_blk (Y := mX4_firstSet) (q_dcC dX4_firstSet_50 q_dcN) (show _ = some ((if q_cc .ne y1 y0 = true then 83 else 53), [.ref 84, .int x1, .int x2, .int x3, .int x4], []) from rfl)).trans ?_
  by_cases c1 : y1 = y0
  · rw [if_neg (show ¬ q_cc .ne y1 y0 = true from fun z => (of_decide_eq_true z : ¬ y1 = y0) c1)]
    refine Eq.trans ?_ (if_pos c1).symm
    refine (q_blk (Y := mX4_firstSet) (q_dcC dX4_firstSet_53 (q_dcC dX4_firstSet_55 (q_dcC dX4_firstSet_56 (q_dcC dX4_firstSet_57 q_dcN)))) (show _ = some ((if q_cc .ne (x4 &&& x3) 0 = true then 83 else 60), [.ref 84, .int x1, .int x2, .int x3, .int x4], []) from rfl)).trans ?_
    by_cases c2 : (x4 &&& x3) = 0
    · rw [if_neg (show ¬ q_cc .ne (x4 &&& x3) 0 = true from fun z => (of_decide_eq_true z : ¬ (x4 &&& x3) = 0) c2)]
      refine Eq.trans ?_ (if_pos c2).symm
      refine (q_blk (Y := mX4_firstSet) (q_dcC dX4_firstSet_60 q_dcN) (show _ = some (61, [.ref 84, .int x1, .int x2, .int x3, .int x4], [.ref 84]) from rfl)).trans ?_
      refine (k_getr (Y := mX4_firstSet) dX4_firstSet_61 rfl rfl ⟨by decide, rfl⟩ (by decide) rfl).trans ?_
      refine (q_blk (Y := mX4_firstSet) (q_dcC dX4_firstSet_64 (q_dcC dX4_firstSet_65 (q_dcC dX4_firstSet_66 (q_dcC dX4_firstSet_67 (q_dcC dX4_firstSet_69 (q_dcC dX4_firstSet_70 q_dcN)))))) (show _ = some (71, [.ref 84, .int x1, .int x2, .int x3, .int x4], [.int (x4 &&& x2), .int (x1 + 1), .ref 89]) from rfl)).trans ?_
      exact K_calS (d := d) (Y := mX4_firstSet) (Z := mJ6_bitCount_0f7a4) (vs := [.int (x4 &&& x2)]) (rest := [.int (x1 + 1), .ref 89]) (la := [.int (x4 &&& x2)]) dX4_firstSet_71 rfl rfl rfl rfl (Nat.le_of_ble_eq_true rfl) rfl (Nat.le_of_ble_eq_true rfl)
    · rw [if_pos (show q_cc .ne (x4 &&& x3) 0 = true from decide_eq_true c2)]
      refine Eq.trans ?_ (if_neg c2).symm
      refine (q_blk (Y := mX4_firstSet) (q_dcC dX4_firstSet_83 (q_dcC dX4_firstSet_86 q_dcN)) (show _ = some (29, [.ref 84, .int x1, .int x2, .int x3, .int (x4 + 1)], []) from rfl)).trans ?_
      rfl
  · rw [if_pos (show q_cc .ne y1 y0 = true from decide_eq_true c1)]
    refine Eq.trans ?_ (if_neg c1).symm
    refine (q_blk (Y := mX4_firstSet) (q_dcC dX4_firstSet_83 (q_dcC dX4_firstSet_86 q_dcN)) (show _ = some (29, [.ref 84, .int x1, .int x2, .int x3, .int (x4 + 1)], []) from rfl)).trans ?_
    rfl
theorem B_X4_firstSet_74 {o : q_H} (d : Nat) (x1 x2 x3 x4 y0 y1 : Int32) (g : Nat → Nat → Int32) : q_sem (d + 1) mX4_firstSet 74 [.ref 84, .int x1, .int x2, .int x3, .int x4] [.int y0, .int y1, .ref 89] (q_K o g) = (q_sem d mX7_get 0 [.ref 89, .int y1, .int y0] [] (q_K o g)).bind (fun r => q_sem (d + 1) mX4_firstSet 77 [.ref 84, .int x1, .int x2, .int x3, .int x4] (r.1.toList ++ []) r.2) := by
  exact K_calV (d := d) (Y := mX4_firstSet) (Z := mX7_get) (vs := [.int y1, .int y0]) (rest := []) (la := [.ref 89, .int y1, .int y0]) dX4_firstSet_74 rfl rfl rfl rfl ⟨by decide, rfl⟩ (Nat.le_of_ble_eq_true rfl) rfl (Nat.le_of_ble_eq_true rfl)
theorem B_X4_firstSet_77 {o : q_H} (d : Nat) (x1 x2 x3 x4 y0 : Int32) (g : Nat → Nat → Int32) : q_sem (d) mX4_firstSet 77 [.ref 84, .int x1, .int x2, .int x3, .int x4] [.int y0] (q_K o g) = (if y0 = 0 then q_sem (d) mX4_firstSet 29 [.ref 84, .int x1, .int x2, .int x3, .int (x4 + 1)] [] (q_K o g) else some (some (.int x4), q_K o g)) := by
  refine (q_blk (Y := mX4_firstSet) (q_dcC dX4_firstSet_77 q_dcN) (show _ = some ((if q_cc .eq y0 0 = true then 83 else 80), [.ref 84, .int x1, .int x2, .int x3, .int x4], []) from rfl)).trans ?_
  by_cases c1 : y0 = 0
  · rw [if_pos (show q_cc .eq y0 0 = true from decide_eq_true c1)]
    refine Eq.trans ?_ (if_pos c1).symm
    refine (q_blk (Y := mX4_firstSet) (q_dcC dX4_firstSet_83 (q_dcC dX4_firstSet_86 q_dcN)) (show _ = some (29, [.ref 84, .int x1, .int x2, .int x3, .int (x4 + 1)], []) from rfl)).trans ?_
    rfl
  · rw [if_neg (show ¬ q_cc .eq y0 0 = true from fun z => c1 (of_decide_eq_true z))]
    refine Eq.trans ?_ (if_neg c1).symm
    refine (q_blk (Y := mX4_firstSet) (q_dcC dX4_firstSet_80 q_dcN) (show _ = some (82, [.ref 84, .int x1, .int x2, .int x3, .int x4], [.int x4]) from rfl)).trans ?_
    exact k_iret (Y := mX4_firstSet) dX4_firstSet_82 rfl
theorem B_X6_has_0 {o : q_H} (d : Nat) (x1 : Int32) (g : Nat → Nat → Int32) : q_sem (d + 1) mX6_has 0 [.ref 69, .int x1] [] (q_K o g) = (q_sem d mX7_has 0 [.ref 70, .int x1] [] (q_K o g)).bind (fun r => q_sem (d + 1) mX6_has 8 [.ref 69, .int x1] (r.1.toList ++ []) r.2) := by
  refine (q_blk (Y := mX6_has) (q_dcC dX6_has_0 q_dcN) (show _ = some (1, [.ref 69, .int x1], [.ref 69]) from rfl)).trans ?_
  refine (k_getr (Y := mX6_has) dX6_has_1 rfl rfl ⟨by decide, rfl⟩ (by decide) rfl).trans ?_
  refine (q_blk (Y := mX6_has) (q_dcC dX6_has_4 q_dcN) (show _ = some (5, [.ref 69, .int x1], [.int x1, .ref 70]) from rfl)).trans ?_
  exact K_calV (d := d) (Y := mX6_has) (Z := mX7_has) (vs := [.int x1]) (rest := []) (la := [.ref 70, .int x1]) dX6_has_5 rfl rfl rfl rfl ⟨by decide, rfl⟩ (Nat.le_of_ble_eq_true rfl) rfl (Nat.le_of_ble_eq_true rfl)
theorem B_X6_has_8 {o : q_H} (d : Nat) (x1 y0 : Int32) (g : Nat → Nat → Int32) : q_sem (d) mX6_has 8 [.ref 69, .int x1] [.int y0] (q_K o g) = (q_rB y0 (q_K o g)) := by
  exact k_iretB (Y := mX6_has) dX6_has_8 rfl
theorem B_X6_bits_0 {o : q_H} (d : Nat) (x1 : Int32) (g : Nat → Nat → Int32) : q_sem (d + 1) mX6_bits 0 [.ref 69, .int x1] [] (q_K o g) = (q_sem d mX7_get 0 [.ref 70, .int x1, .int 0] [] (q_K o g)).bind (fun r => q_sem (d + 1) mX6_bits 9 [.ref 69, .int x1] (r.1.toList ++ []) r.2) := by
  refine (q_blk (Y := mX6_bits) (q_dcC dX6_bits_0 q_dcN) (show _ = some (1, [.ref 69, .int x1], [.ref 69]) from rfl)).trans ?_
  refine (k_getr (Y := mX6_bits) dX6_bits_1 rfl rfl ⟨by decide, rfl⟩ (by decide) rfl).trans ?_
  refine (q_blk (Y := mX6_bits) (q_dcC dX6_bits_4 (q_dcC dX6_bits_5 q_dcN)) (show _ = some (6, [.ref 69, .int x1], [.int 0, .int x1, .ref 70]) from rfl)).trans ?_
  exact K_calV (d := d) (Y := mX6_bits) (Z := mX7_get) (vs := [.int x1, .int 0]) (rest := []) (la := [.ref 70, .int x1, .int 0]) dX6_bits_6 rfl rfl rfl rfl ⟨by decide, rfl⟩ (Nat.le_of_ble_eq_true rfl) rfl (Nat.le_of_ble_eq_true rfl)
theorem B_X6_bits_9 {o : q_H} (d : Nat) (x1 y0 : Int32) (g : Nat → Nat → Int32) : q_sem (d) mX6_bits 9 [.ref 69, .int x1] [.int y0] (q_K o g) = some (some (.int y0), q_K o g) := by
  exact k_iret (Y := mX6_bits) dX6_bits_9 rfl
theorem B_X6_size_0 {o : q_H} (d : Nat) (x1 : Int32) (g : Nat → Nat → Int32) : q_sem (d + 1) mX6_size 0 [.ref 69, .int x1] [] (q_K o g) = (q_sem d mX7_get 0 [.ref 70, .int x1, .int 1] [] (q_K o g)).bind (fun r => q_sem (d + 1) mX6_size 9 [.ref 69, .int x1] (r.1.toList ++ []) r.2) := by
  refine (q_blk (Y := mX6_size) (q_dcC dX6_size_0 q_dcN) (show _ = some (1, [.ref 69, .int x1], [.ref 69]) from rfl)).trans ?_
  refine (k_getr (Y := mX6_size) dX6_size_1 rfl rfl ⟨by decide, rfl⟩ (by decide) rfl).trans ?_
  refine (q_blk (Y := mX6_size) (q_dcC dX6_size_4 (q_dcC dX6_size_5 q_dcN)) (show _ = some (6, [.ref 69, .int x1], [.int 1, .int x1, .ref 70]) from rfl)).trans ?_
  exact K_calV (d := d) (Y := mX6_size) (Z := mX7_get) (vs := [.int x1, .int 1]) (rest := []) (la := [.ref 70, .int x1, .int 1]) dX6_size_6 rfl rfl rfl rfl ⟨by decide, rfl⟩ (Nat.le_of_ble_eq_true rfl) rfl (Nat.le_of_ble_eq_true rfl)
theorem B_X6_size_9 {o : q_H} (d : Nat) (x1 y0 : Int32) (g : Nat → Nat → Int32) : q_sem (d) mX6_size 9 [.ref 69, .int x1] [.int y0] (q_K o g) = some (some (.int y0), q_K o g) := by
  exact k_iret (Y := mX6_size) dX6_size_9 rfl
theorem B_X6_wanting_0 {o : q_H} (d : Nat) (x1 : Int32) (g : Nat → Nat → Int32) : q_sem (d + 1) mX6_wanting 0 [.ref 69, .int x1] [] (q_K o g) = (q_sem d mX6_has 0 [.ref 69, .int x1] [] (q_K o g)).bind (fun r => q_sem (d + 1) mX6_wanting 5 [.ref 69, .int x1] (r.1.toList ++ []) r.2) := by
  refine (q_blk (Y := mX6_wanting) (q_dcC dX6_wanting_0 (q_dcC dX6_wanting_1 q_dcN)) (show _ = some (2, [.ref 69, .int x1], [.int x1, .ref 69]) from rfl)).trans ?_
  exact K_calV (d := d) (Y := mX6_wanting) (Z := mX6_has) (vs := [.int x1]) (rest := []) (la := [.ref 69, .int x1]) dX6_wanting_2 rfl rfl rfl rfl ⟨by decide, rfl⟩ (Nat.le_of_ble_eq_true rfl) rfl (Nat.le_of_ble_eq_true rfl)
theorem B_X6_wanting_5 {o : q_H} (d : Nat) (x1 y0 : Int32) (g : Nat → Nat → Int32) : q_sem (d + 1) mX6_wanting 5 [.ref 69, .int x1] [.int y0] (q_K o g) = (if y0 = 0 then some (some (.int 1), q_K o g) else (q_sem d mX6_bits 0 [.ref 69, .int x1] [] (q_K o g)).bind (fun r => q_sem (d + 1) mX6_wanting 15 [.ref 69, .int x1] (r.1.toList ++ []) r.2)) := by
  refine (q_blk (Y := mX6_wanting) (q_dcC dX6_wanting_5 q_dcN) (show _ = some ((if q_cc .ne y0 0 = true then 10 else 8), [.ref 69, .int x1], []) from rfl)).trans ?_
  by_cases c1 : y0 = 0
  · rw [if_neg (show ¬ q_cc .ne y0 0 = true from fun z => (of_decide_eq_true z : ¬ y0 = 0) c1)]
    refine Eq.trans ?_ (if_pos c1).symm
    refine (q_blk (Y := mX6_wanting) (q_dcC dX6_wanting_8 q_dcN) (show _ = some (9, [.ref 69, .int x1], [.int 1]) from rfl)).trans ?_
    exact k_iret (Y := mX6_wanting) dX6_wanting_9 rfl
  · rw [if_pos (show q_cc .ne y0 0 = true from decide_eq_true c1)]
    refine Eq.trans ?_ (if_neg c1).symm
    refine (q_blk (Y := mX6_wanting) (q_dcC dX6_wanting_10 (q_dcC dX6_wanting_11 q_dcN)) (show _ = some (12, [.ref 69, .int x1], [.int x1, .ref 69]) from rfl)).trans ?_
    exact K_calV (d := d) (Y := mX6_wanting) (Z := mX6_bits) (vs := [.int x1]) (rest := []) (la := [.ref 69, .int x1]) dX6_wanting_12 rfl rfl rfl rfl ⟨by decide, rfl⟩ (Nat.le_of_ble_eq_true rfl) rfl (Nat.le_of_ble_eq_true rfl)
theorem B_X6_wanting_15 {o : q_H} (d : Nat) (x1 y0 : Int32) (g : Nat → Nat → Int32) : q_sem (d) mX6_wanting 15 [.ref 69, .int x1] [.int y0] (q_K o g) = (if y0 = 0 then some (some (.int 2), q_K o g) else some (some (.int 0), q_K o g)) := by
  refine (q_blk (Y := mX6_wanting) (q_dcC dX6_wanting_15 q_dcN) (show _ = some ((if q_cc .ne y0 0 = true then 22 else 18), [.ref 69, .int x1], []) from rfl)).trans ?_
  by_cases c1 : y0 = 0
  · rw [if_neg (show ¬ q_cc .ne y0 0 = true from fun z => (of_decide_eq_true z : ¬ y0 = 0) c1)]
    refine Eq.trans ?_ (if_pos c1).symm
    refine (q_blk (Y := mX6_wanting) (q_dcC dX6_wanting_18 (q_dcC dX6_wanting_19 q_dcN)) (show _ = some (23, [.ref 69, .int x1], [.int 2]) from rfl)).trans ?_
    exact k_iret (Y := mX6_wanting) dX6_wanting_23 rfl
  · rw [if_pos (show q_cc .ne y0 0 = true from decide_eq_true c1)]
    refine Eq.trans ?_ (if_neg c1).symm
    refine (q_blk (Y := mX6_wanting) (q_dcC dX6_wanting_22 q_dcN) (show _ = some (23, [.ref 69, .int x1], [.int 0]) from rfl)).trans ?_
    exact k_iret (Y := mX6_wanting) dX6_wanting_23 rfl
theorem B_X6_lay_0 {o : q_H} (d : Nat) (x1 x2 x3 : Int32) (g : Nat → Nat → Int32) : q_sem (d + 1) mX6_lay 0 [.ref 69, .int x1, .int x2, .int x3, .retAddr 0] [] (q_K o g) = (q_sem d mX7_write 0 [.ref 70, .int x1, .int 0, .int x2] [] (q_K o g)).bind (fun r => q_sem (d + 1) mX6_lay 10 [.ref 69, .int x1, .int x2, .int x3, .retAddr 0] (r.1.toList ++ []) r.2) := by
  refine (q_blk (Y := mX6_lay) (q_dcC dX6_lay_0 q_dcN) (show _ = some (1, [.ref 69, .int x1, .int x2, .int x3, .retAddr 0], [.ref 69]) from rfl)).trans ?_
  refine (k_getr (Y := mX6_lay) dX6_lay_1 rfl rfl ⟨by decide, rfl⟩ (by decide) rfl).trans ?_
  refine (q_blk (Y := mX6_lay) (q_dcC dX6_lay_4 (q_dcC dX6_lay_5 (q_dcC dX6_lay_6 q_dcN))) (show _ = some (7, [.ref 69, .int x1, .int x2, .int x3, .retAddr 0], [.int x2, .int 0, .int x1, .ref 70]) from rfl)).trans ?_
  exact K_calV (d := d) (Y := mX6_lay) (Z := mX7_write) (vs := [.int x1, .int 0, .int x2]) (rest := []) (la := [.ref 70, .int x1, .int 0, .int x2]) dX6_lay_7 rfl rfl rfl rfl ⟨by decide, rfl⟩ (Nat.le_of_ble_eq_true rfl) rfl (Nat.le_of_ble_eq_true rfl)
theorem B_X6_lay_10 {o : q_H} (d : Nat) (x1 x2 x3 : Int32) (g : Nat → Nat → Int32) : q_sem (d + 1) mX6_lay 10 [.ref 69, .int x1, .int x2, .int x3, .retAddr 0] [] (q_K o g) = (q_sem d mX7_write 0 [.ref 70, .int x1, .int 1, .int x3] [] (q_K o g)).bind (fun r => q_sem (d + 1) mX6_lay 20 [.ref 69, .int x1, .int x2, .int x3, .retAddr 0] (r.1.toList ++ []) r.2) := by
  refine (q_blk (Y := mX6_lay) (q_dcC dX6_lay_10 q_dcN) (show _ = some (11, [.ref 69, .int x1, .int x2, .int x3, .retAddr 0], [.ref 69]) from rfl)).trans ?_
  refine (k_getr (Y := mX6_lay) dX6_lay_11 rfl rfl ⟨by decide, rfl⟩ (by decide) rfl).trans ?_
  refine (q_blk (Y := mX6_lay) (q_dcC dX6_lay_14 (q_dcC dX6_lay_15 (q_dcC dX6_lay_16 q_dcN))) (show _ = some (17, [.ref 69, .int x1, .int x2, .int x3, .retAddr 0], [.int x3, .int 1, .int x1, .ref 70]) from rfl)).trans ?_
  exact K_calV (d := d) (Y := mX6_lay) (Z := mX7_write) (vs := [.int x1, .int 1, .int x3]) (rest := []) (la := [.ref 70, .int x1, .int 1, .int x3]) dX6_lay_17 rfl rfl rfl rfl ⟨by decide, rfl⟩ (Nat.le_of_ble_eq_true rfl) rfl (Nat.le_of_ble_eq_true rfl)
theorem B_X6_lay_20 {o : q_H} (d : Nat) (x1 x2 x3 : Int32) (g : Nat → Nat → Int32) : q_sem (d) mX6_lay 20 [.ref 69, .int x1, .int x2, .int x3, .retAddr 0] [] (q_K o g) = q_sem (d) mX6_lay 23 [.ref 69, .int x1, .int x2, .int x3, .int 0] [] (q_K o g) := by
  refine (q_blk (Y := mX6_lay) (q_dcC dX6_lay_20 (q_dcC dX6_lay_21 q_dcN)) (show _ = some (23, [.ref 69, .int x1, .int x2, .int x3, .int 0], []) from rfl)).trans ?_
  rfl
theorem B_X6_lay_23 {o : q_H} (d : Nat) (x1 x2 x3 x4 : Int32) (g : Nat → Nat → Int32) : q_sem (d + 1) mX6_lay 23 [.ref 69, .int x1, .int x2, .int x3, .int x4] [] (q_K o g) = (if 24 ≤ x4 then some (none, q_K o g) else (q_sem d mX7_write 0 [.ref 70, .int x1, .int (2 + x4), .int 0] [] (q_K o g)).bind (fun r => q_sem (d + 1) mX6_lay 43 [.ref 69, .int x1, .int x2, .int x3, .int x4] (r.1.toList ++ []) r.2)) := by
  refine (q_blk (Y := mX6_lay) (q_dcC dX6_lay_23 (q_dcC dX6_lay_25 (q_dcC dX6_lay_27 q_dcN))) (show _ = some ((if q_cc .ge x4 24 = true then 49 else 30), [.ref 69, .int x1, .int x2, .int x3, .int x4], []) from rfl)).trans ?_
  by_cases c1 : 24 ≤ x4
  · rw [if_pos (show q_cc .ge x4 24 = true from decide_eq_true c1)]
    refine Eq.trans ?_ (if_pos c1).symm
    exact k_vret (Y := mX6_lay) dX6_lay_49 rfl
  · rw [if_neg (show ¬ q_cc .ge x4 24 = true from fun z => c1 (of_decide_eq_true z))]
    refine Eq.trans ?_ (if_neg c1).symm
    refine (q_blk (Y := mX6_lay) (q_dcC dX6_lay_30 q_dcN) (show _ = some (31, [.ref 69, .int x1, .int x2, .int x3, .int x4], [.ref 69]) from rfl)).trans ?_
    refine (k_getr (Y := mX6_lay) dX6_lay_31 rfl rfl ⟨by decide, rfl⟩ (by decide) rfl).trans ?_
    refine (q_blk (Y := mX6_lay) (q_dcC dX6_lay_34 (q_dcC dX6_lay_35 (q_dcC dX6_lay_36 (q_dcC dX6_lay_38 (q_dcC dX6_lay_39 q_dcN))))) (show _ = some (40, [.ref 69, .int x1, .int x2, .int x3, .int x4], [.int 0, .int (2 + x4), .int x1, .ref 70]) from rfl)).trans ?_
    exact K_calV (d := d) (Y := mX6_lay) (Z := mX7_write) (vs := [.int x1, .int (2 + x4), .int 0]) (rest := []) (la := [.ref 70, .int x1, .int (2 + x4), .int 0]) dX6_lay_40 rfl rfl rfl rfl ⟨by decide, rfl⟩ (Nat.le_of_ble_eq_true rfl) rfl (Nat.le_of_ble_eq_true rfl)
theorem B_X6_lay_43 {o : q_H} (d : Nat) (x1 x2 x3 x4 : Int32) (g : Nat → Nat → Int32) : q_sem (d) mX6_lay 43 [.ref 69, .int x1, .int x2, .int x3, .int x4] [] (q_K o g) = q_sem (d) mX6_lay 23 [.ref 69, .int x1, .int x2, .int x3, .int (x4 + 1)] [] (q_K o g) := by
  refine (q_blk (Y := mX6_lay) (q_dcC dX6_lay_43 (q_dcC dX6_lay_46 q_dcN)) (show _ = some (23, [.ref 69, .int x1, .int x2, .int x3, .int (x4 + 1)], []) from rfl)).trans ?_
  rfl
theorem B_X6_get_0 {o : q_H} (d : Nat) (x1 x2 : Int32) (g : Nat → Nat → Int32) : q_sem (d + 1) mX6_get 0 [.ref 69, .int x1, .int x2] [] (q_K o g) = (q_sem d mX6_size 0 [.ref 69, .int x1] [] (q_K o g)).bind (fun r => q_sem (d + 1) mX6_get 7 [.ref 69, .int x1, .int x2] (r.1.toList ++ [.int 0, .int x2]) r.2) := by
  refine (q_blk (Y := mX6_get) (q_dcC dX6_get_0 (q_dcC dX6_get_1 (q_dcC dX6_get_2 (q_dcC dX6_get_3 q_dcN)))) (show _ = some (4, [.ref 69, .int x1, .int x2], [.int x1, .ref 69, .int 0, .int x2]) from rfl)).trans ?_
  exact K_calV (d := d) (Y := mX6_get) (Z := mX6_size) (vs := [.int x1]) (rest := [.int 0, .int x2]) (la := [.ref 69, .int x1]) dX6_get_4 rfl rfl rfl rfl ⟨by decide, rfl⟩ (Nat.le_of_ble_eq_true rfl) rfl (Nat.le_of_ble_eq_true rfl)
theorem B_X6_get_7 {o : q_H} (d : Nat) (x1 x2 y0 y1 y2 : Int32) (g : Nat → Nat → Int32) : q_sem (d + 1) mX6_get 7 [.ref 69, .int x1, .int x2] [.int y0, .int y1, .int y2] (q_K o g) = (q_sem d mX11_within 0 [.int y2, .int y1, .int (y0 - 1)] [] (q_K o g)).bind (fun r => q_sem (d + 1) mX6_get 12 [.ref 69, .int x1, .int x2] (r.1.toList ++ []) r.2) := by
  refine (q_blk (Y := mX6_get) (q_dcC dX6_get_7 (q_dcC dX6_get_8 q_dcN)) (show _ = some (9, [.ref 69, .int x1, .int x2], [.int (y0 - 1), .int y1, .int y2]) from rfl)).trans ?_
  exact K_calN (d := d) (Y := mX6_get) (Z := mX11_within) (vs := [.int y2, .int y1, .int (y0 - 1)]) (rest := []) (la := [.int y2, .int y1, .int (y0 - 1)]) dX6_get_9 rfl rfl rfl rfl rfl (Nat.le_of_ble_eq_true rfl) rfl (Nat.le_of_ble_eq_true rfl)
theorem B_X6_get_12 {o : q_H} (d : Nat) (x1 x2 y0 : Int32) (g : Nat → Nat → Int32) : q_sem (d + 1) mX6_get 12 [.ref 69, .int x1, .int x2] [.int y0] (q_K o g) = (if y0 = 0 then some (some (.int 0), q_K o g) else (q_sem d mX7_get 0 [.ref 70, .int x1, .int (2 + x2)] [] (q_K o g)).bind (fun r => q_sem (d + 1) mX6_get 26 [.ref 69, .int x1, .int x2] (r.1.toList ++ []) r.2)) := by
  refine (q_blk (Y := mX6_get) (q_dcC dX6_get_12 q_dcN) (show _ = some ((if q_cc .eq y0 0 = true then 29 else 15), [.ref 69, .int x1, .int x2], []) from rfl)).trans ?_
  by_cases c1 : y0 = 0
  · rw [if_pos (show q_cc .eq y0 0 = true from decide_eq_true c1)]
    refine Eq.trans ?_ (if_pos c1).symm
    refine (q_blk (Y := mX6_get) (q_dcC dX6_get_29 q_dcN) (show _ = some (30, [.ref 69, .int x1, .int x2], [.int 0]) from rfl)).trans ?_
    exact k_iret (Y := mX6_get) dX6_get_30 rfl
  · rw [if_neg (show ¬ q_cc .eq y0 0 = true from fun z => c1 (of_decide_eq_true z))]
    refine Eq.trans ?_ (if_neg c1).symm
    refine (q_blk (Y := mX6_get) (q_dcC dX6_get_15 q_dcN) (show _ = some (16, [.ref 69, .int x1, .int x2], [.ref 69]) from rfl)).trans ?_
    refine (k_getr (Y := mX6_get) dX6_get_16 rfl rfl ⟨by decide, rfl⟩ (by decide) rfl).trans ?_
    refine (q_blk (Y := mX6_get) (q_dcC dX6_get_19 (q_dcC dX6_get_20 (q_dcC dX6_get_21 (q_dcC dX6_get_22 q_dcN)))) (show _ = some (23, [.ref 69, .int x1, .int x2], [.int (2 + x2), .int x1, .ref 70]) from rfl)).trans ?_
    exact K_calV (d := d) (Y := mX6_get) (Z := mX7_get) (vs := [.int x1, .int (2 + x2)]) (rest := []) (la := [.ref 70, .int x1, .int (2 + x2)]) dX6_get_23 rfl rfl rfl rfl ⟨by decide, rfl⟩ (Nat.le_of_ble_eq_true rfl) rfl (Nat.le_of_ble_eq_true rfl)
theorem B_X6_get_26 {o : q_H} (d : Nat) (x1 x2 y0 : Int32) (g : Nat → Nat → Int32) : q_sem (d) mX6_get 26 [.ref 69, .int x1, .int x2] [.int y0] (q_K o g) = some (some (.int y0), q_K o g) := by
  refine (q_blk (Y := mX6_get) (q_dcC dX6_get_26 q_dcN) (show _ = some (30, [.ref 69, .int x1, .int x2], [.int y0]) from rfl)).trans ?_
  exact k_iret (Y := mX6_get) dX6_get_30 rfl
theorem B_X6_write_0 {o : q_H} (d : Nat) (x1 x2 x3 : Int32) (g : Nat → Nat → Int32) : q_sem (d + 1) mX6_write 0 [.ref 69, .int x1, .int x2, .int x3, .retAddr 0] [] (q_K o g) = (q_sem d mX6_size 0 [.ref 69, .int x1] [] (q_K o g)).bind (fun r => q_sem (d + 1) mX6_write 7 [.ref 69, .int x1, .int x2, .int x3, .retAddr 0] (r.1.toList ++ [.int 0, .int x2]) r.2) := by
  refine (q_blk (Y := mX6_write) (q_dcC dX6_write_0 (q_dcC dX6_write_1 (q_dcC dX6_write_2 (q_dcC dX6_write_3 q_dcN)))) (show _ = some (4, [.ref 69, .int x1, .int x2, .int x3, .retAddr 0], [.int x1, .ref 69, .int 0, .int x2]) from rfl)).trans ?_
  exact K_calV (d := d) (Y := mX6_write) (Z := mX6_size) (vs := [.int x1]) (rest := [.int 0, .int x2]) (la := [.ref 69, .int x1]) dX6_write_4 rfl rfl rfl rfl ⟨by decide, rfl⟩ (Nat.le_of_ble_eq_true rfl) rfl (Nat.le_of_ble_eq_true rfl)
theorem B_X6_write_7 {o : q_H} (d : Nat) (x1 x2 x3 y0 y1 y2 : Int32) (g : Nat → Nat → Int32) : q_sem (d + 1) mX6_write 7 [.ref 69, .int x1, .int x2, .int x3, .retAddr 0] [.int y0, .int y1, .int y2] (q_K o g) = (q_sem d mX11_within 0 [.int y2, .int y1, .int (y0 - 1)] [] (q_K o g)).bind (fun r => q_sem (d + 1) mX6_write 12 [.ref 69, .int x1, .int x2, .int x3, .retAddr 0] (r.1.toList ++ []) r.2) := by
  refine (q_blk (Y := mX6_write) (q_dcC dX6_write_7 (q_dcC dX6_write_8 q_dcN)) (show _ = some (9, [.ref 69, .int x1, .int x2, .int x3, .retAddr 0], [.int (y0 - 1), .int y1, .int y2]) from rfl)).trans ?_
  exact K_calN (d := d) (Y := mX6_write) (Z := mX11_within) (vs := [.int y2, .int y1, .int (y0 - 1)]) (rest := []) (la := [.int y2, .int y1, .int (y0 - 1)]) dX6_write_9 rfl rfl rfl rfl rfl (Nat.le_of_ble_eq_true rfl) rfl (Nat.le_of_ble_eq_true rfl)
theorem B_X6_write_12 {o : q_H} (d : Nat) (x1 x2 x3 y0 : Int32) (g : Nat → Nat → Int32) : q_sem (d + 1) mX6_write 12 [.ref 69, .int x1, .int x2, .int x3, .retAddr 0] [.int y0] (q_K o g) = (if y0 = 0 then some (none, q_K o g) else (q_sem d mX6_bits 0 [.ref 69, .int x1] [] (q_K o g)).bind (fun r => q_sem (d + 1) mX6_write 20 [.ref 69, .int x1, .int x2, .int x3, .retAddr 0] (r.1.toList ++ []) r.2)) := by
  refine (q_blk (Y := mX6_write) (q_dcC dX6_write_12 q_dcN) (show _ = some ((if q_cc .eq y0 0 = true then 58 else 15), [.ref 69, .int x1, .int x2, .int x3, .retAddr 0], []) from rfl)).trans ?_
  by_cases c1 : y0 = 0
  · rw [if_pos (show q_cc .eq y0 0 = true from decide_eq_true c1)]
    refine Eq.trans ?_ (if_pos c1).symm
    exact k_vret (Y := mX6_write) dX6_write_58 rfl
  · rw [if_neg (show ¬ q_cc .eq y0 0 = true from fun z => c1 (of_decide_eq_true z))]
    refine Eq.trans ?_ (if_neg c1).symm
    refine (q_blk (Y := mX6_write) (q_dcC dX6_write_15 (q_dcC dX6_write_16 q_dcN)) (show _ = some (17, [.ref 69, .int x1, .int x2, .int x3, .retAddr 0], [.int x1, .ref 69]) from rfl)).trans ?_
    exact K_calV (d := d) (Y := mX6_write) (Z := mX6_bits) (vs := [.int x1]) (rest := []) (la := [.ref 69, .int x1]) dX6_write_17 rfl rfl rfl rfl ⟨by decide, rfl⟩ (Nat.le_of_ble_eq_true rfl) rfl (Nat.le_of_ble_eq_true rfl)
theorem B_X6_write_20 {o : q_H} (d : Nat) (x1 x2 x3 y0 : Int32) (g : Nat → Nat → Int32) : q_sem (d + 1) mX6_write 20 [.ref 69, .int x1, .int x2, .int x3, .retAddr 0] [.int y0] (q_K o g) = (if y0 = 8 then (q_sem d mX7_write 0 [.ref 70, .int x1, .int (2 + x2), .int (x3 : Int32).toInt8.toInt32] [] (q_K o g)).bind (fun r => q_sem (d + 1) mX6_write 58 [.ref 69, .int x1, .int x2, .int x3, .int y0] (r.1.toList ++ []) r.2) else (if y0 = 16 then (q_sem d mX7_write 0 [.ref 70, .int x1, .int (2 + x2), .int (x3 : Int32).toInt16.toInt32] [] (q_K o g)).bind (fun r => q_sem (d + 1) mX6_write 58 [.ref 69, .int x1, .int x2, .int x3, .int y0] (r.1.toList ++ []) r.2) else (q_sem d mX7_write 0 [.ref 70, .int x1, .int (2 + x2), .int x3] [] (q_K o g)).bind (fun r => q_sem (d + 1) mX6_write 58 [.ref 69, .int x1, .int x2, .int x3, .int y0] (r.1.toList ++ []) r.2))) := by
  refine (q_blk (Y := mX6_write) (q_dcC dX6_write_20 (q_dcC dX6_write_22 q_dcN)) (show _ = some (23, [.ref 69, .int x1, .int x2, .int x3, .int y0], [.ref 69]) from rfl)).trans ?_
  refine (k_getr (Y := mX6_write) dX6_write_23 rfl rfl ⟨by decide, rfl⟩ (by decide) rfl).trans ?_
  refine (q_blk (Y := mX6_write) (q_dcC dX6_write_26 (q_dcC dX6_write_27 (q_dcC dX6_write_28 (q_dcC dX6_write_29 (q_dcC dX6_write_30 (q_dcC dX6_write_32 (q_dcC dX6_write_34 q_dcN))))))) (show _ = some ((if q_cc .ne y0 8 = true then 42 else 37), [.ref 69, .int x1, .int x2, .int x3, .int y0], [.int (2 + x2), .int x1, .ref 70]) from rfl)).trans ?_
  by_cases c1 : y0 = 8
  · rw [if_neg (show ¬ q_cc .ne y0 8 = true from fun z => (of_decide_eq_true z : ¬ y0 = 8) c1)]
    refine Eq.trans ?_ (if_pos c1).symm
    refine (q_blk (Y := mX6_write) (q_dcC dX6_write_37 (q_dcC dX6_write_38 (q_dcC dX6_write_39 q_dcN))) (show _ = some (55, [.ref 69, .int x1, .int x2, .int x3, .int y0], [.int (x3 : Int32).toInt8.toInt32, .int (2 + x2), .int x1, .ref 70]) from rfl)).trans ?_
    exact K_calV (d := d) (Y := mX6_write) (Z := mX7_write) (vs := [.int x1, .int (2 + x2), .int (x3 : Int32).toInt8.toInt32]) (rest := []) (la := [.ref 70, .int x1, .int (2 + x2), .int (x3 : Int32).toInt8.toInt32]) dX6_write_55 rfl rfl rfl rfl ⟨by decide, rfl⟩ (Nat.le_of_ble_eq_true rfl) rfl (Nat.le_of_ble_eq_true rfl)
  · rw [if_pos (show q_cc .ne y0 8 = true from decide_eq_true c1)]
    refine Eq.trans ?_ (if_neg c1).symm
    refine (q_blk (Y := mX6_write) (q_dcC dX6_write_42 (q_dcC dX6_write_44 (q_dcC dX6_write_46 q_dcN))) (show _ = some ((if q_cc .ne y0 16 = true then 54 else 49), [.ref 69, .int x1, .int x2, .int x3, .int y0], [.int (2 + x2), .int x1, .ref 70]) from rfl)).trans ?_
    by_cases c2 : y0 = 16
    · rw [if_neg (show ¬ q_cc .ne y0 16 = true from fun z => (of_decide_eq_true z : ¬ y0 = 16) c2)]
      refine Eq.trans ?_ (if_pos c2).symm
      refine (q_blk (Y := mX6_write) (q_dcC dX6_write_49 (q_dcC dX6_write_50 (q_dcC dX6_write_51 q_dcN))) (show _ = some (55, [.ref 69, .int x1, .int x2, .int x3, .int y0], [.int (x3 : Int32).toInt16.toInt32, .int (2 + x2), .int x1, .ref 70]) from rfl)).trans ?_
      exact K_calV (d := d) (Y := mX6_write) (Z := mX7_write) (vs := [.int x1, .int (2 + x2), .int (x3 : Int32).toInt16.toInt32]) (rest := []) (la := [.ref 70, .int x1, .int (2 + x2), .int (x3 : Int32).toInt16.toInt32]) dX6_write_55 rfl rfl rfl rfl ⟨by decide, rfl⟩ (Nat.le_of_ble_eq_true rfl) rfl (Nat.le_of_ble_eq_true rfl)
    · rw [if_pos (show q_cc .ne y0 16 = true from decide_eq_true c2)]
      refine Eq.trans ?_ (if_neg c2).symm
      refine (q_blk (Y := mX6_write) (q_dcC dX6_write_54 q_dcN) (show _ = some (55, [.ref 69, .int x1, .int x2, .int x3, .int y0], [.int x3, .int (2 + x2), .int x1, .ref 70]) from rfl)).trans ?_
      exact K_calV (d := d) (Y := mX6_write) (Z := mX7_write) (vs := [.int x1, .int (2 + x2), .int x3]) (rest := []) (la := [.ref 70, .int x1, .int (2 + x2), .int x3]) dX6_write_55 rfl rfl rfl rfl ⟨by decide, rfl⟩ (Nat.le_of_ble_eq_true rfl) rfl (Nat.le_of_ble_eq_true rfl)
theorem B_X6_write_58 {o : q_H} (d : Nat) (x1 x2 x3 x4 : Int32) (g : Nat → Nat → Int32) : q_sem (d) mX6_write 58 [.ref 69, .int x1, .int x2, .int x3, .int x4] [] (q_K o g) = some (none, q_K o g) := by
  exact k_vret (Y := mX6_write) dX6_write_58 rfl
theorem B_X6_copy_0 {o : q_H} (d : Nat) (x1 x2 x3 x4 x5 : Int32) (g : Nat → Nat → Int32) : q_sem (d + 1) mX6_copy 0 [.ref 69, .int x1, .int x2, .int x3, .int x4, .int x5, .retAddr 0, .retAddr 0, .retAddr 0] [] (q_K o g) = (if x5 < 0 then some (some (.int 0), q_K o g) else (if x2 < 0 then some (some (.int 0), q_K o g) else (if x4 < 0 then some (some (.int 0), q_K o g) else (q_sem d mX6_size 0 [.ref 69, .int x1] [] (q_K o g)).bind (fun r => q_sem (d + 1) mX6_copy 20 [.ref 69, .int x1, .int x2, .int x3, .int x4, .int x5, .retAddr 0, .retAddr 0, .retAddr 0] (r.1.toList ++ [.int x2]) r.2)))) := by
  refine (q_blk (Y := mX6_copy) (q_dcC dX6_copy_0 (q_dcC dX6_copy_2 q_dcN)) (show _ = some ((if q_cc .lt x5 0 = true then 39 else 5), [.ref 69, .int x1, .int x2, .int x3, .int x4, .int x5, .retAddr 0, .retAddr 0, .retAddr 0], []) from rfl)).trans ?_
  by_cases c1 : x5 < 0
  · rw [if_pos (show q_cc .lt x5 0 = true from decide_eq_true c1)]
    refine Eq.trans ?_ (if_pos c1).symm
    refine (q_blk (Y := mX6_copy) (q_dcC dX6_copy_39 q_dcN) (show _ = some (40, [.ref 69, .int x1, .int x2, .int x3, .int x4, .int x5, .retAddr 0, .retAddr 0, .retAddr 0], [.int 0]) from rfl)).trans ?_
    exact k_iret (Y := mX6_copy) dX6_copy_40 rfl
  · rw [if_neg (show ¬ q_cc .lt x5 0 = true from fun z => c1 (of_decide_eq_true z))]
    refine Eq.trans ?_ (if_neg c1).symm
    refine (q_blk (Y := mX6_copy) (q_dcC dX6_copy_5 (q_dcC dX6_copy_6 q_dcN)) (show _ = some ((if q_cc .lt x2 0 = true then 39 else 9), [.ref 69, .int x1, .int x2, .int x3, .int x4, .int x5, .retAddr 0, .retAddr 0, .retAddr 0], []) from rfl)).trans ?_
    by_cases c2 : x2 < 0
    · rw [if_pos (show q_cc .lt x2 0 = true from decide_eq_true c2)]
      refine Eq.trans ?_ (if_pos c2).symm
      refine (q_blk (Y := mX6_copy) (q_dcC dX6_copy_39 q_dcN) (show _ = some (40, [.ref 69, .int x1, .int x2, .int x3, .int x4, .int x5, .retAddr 0, .retAddr 0, .retAddr 0], [.int 0]) from rfl)).trans ?_
      exact k_iret (Y := mX6_copy) dX6_copy_40 rfl
    · rw [if_neg (show ¬ q_cc .lt x2 0 = true from fun z => c2 (of_decide_eq_true z))]
      refine Eq.trans ?_ (if_neg c2).symm
      refine (q_blk (Y := mX6_copy) (q_dcC dX6_copy_9 (q_dcC dX6_copy_11 q_dcN)) (show _ = some ((if q_cc .lt x4 0 = true then 39 else 14), [.ref 69, .int x1, .int x2, .int x3, .int x4, .int x5, .retAddr 0, .retAddr 0, .retAddr 0], []) from rfl)).trans ?_
      by_cases c3 : x4 < 0
      · rw [if_pos (show q_cc .lt x4 0 = true from decide_eq_true c3)]
        refine Eq.trans ?_ (if_pos c3).symm
        refine (q_blk (Y := mX6_copy) (q_dcC dX6_copy_39 q_dcN) (show _ = some (40, [.ref 69, .int x1, .int x2, .int x3, .int x4, .int x5, .retAddr 0, .retAddr 0, .retAddr 0], [.int 0]) from rfl)).trans ?_
        exact k_iret (Y := mX6_copy) dX6_copy_40 rfl
      · rw [if_neg (show ¬ q_cc .lt x4 0 = true from fun z => c3 (of_decide_eq_true z))]
        refine Eq.trans ?_ (if_neg c3).symm
        refine (q_blk (Y := mX6_copy) (q_dcC dX6_copy_14 (q_dcC dX6_copy_15 (q_dcC dX6_copy_16 q_dcN))) (show _ = some (17, [.ref 69, .int x1, .int x2, .int x3, .int x4, .int x5, .retAddr 0, .retAddr 0, .retAddr 0], [.int x1, .ref 69, .int x2]) from rfl)).trans ?_
        exact K_calV (d := d) (Y := mX6_copy) (Z := mX6_size) (vs := [.int x1]) (rest := [.int x2]) (la := [.ref 69, .int x1]) dX6_copy_17 rfl rfl rfl rfl ⟨by decide, rfl⟩ (Nat.le_of_ble_eq_true rfl) rfl (Nat.le_of_ble_eq_true rfl)
theorem B_X6_copy_20 {o : q_H} (d : Nat) (x1 x2 x3 x4 x5 y0 y1 : Int32) (g : Nat → Nat → Int32) : q_sem (d + 1) mX6_copy 20 [.ref 69, .int x1, .int x2, .int x3, .int x4, .int x5, .retAddr 0, .retAddr 0, .retAddr 0] [.int y0, .int y1] (q_K o g) = (if (y0 - x5) < y1 then some (some (.int 0), q_K o g) else (q_sem d mX6_size 0 [.ref 69, .int x3] [] (q_K o g)).bind (fun r => q_sem (d + 1) mX6_copy 33 [.ref 69, .int x1, .int x2, .int x3, .int x4, .int x5, .retAddr 0, .retAddr 0, .retAddr 0] (r.1.toList ++ [.int x4]) r.2)) := by
  refine (q_blk (Y := mX6_copy) (q_dcC dX6_copy_20 (q_dcC dX6_copy_22 (q_dcC dX6_copy_23 q_dcN))) (show _ = some ((if q_cc .gt y1 (y0 - x5) = true then 39 else 26), [.ref 69, .int x1, .int x2, .int x3, .int x4, .int x5, .retAddr 0, .retAddr 0, .retAddr 0], []) from rfl)).trans ?_
  by_cases c1 : (y0 - x5) < y1
  · rw [if_pos (show q_cc .gt y1 (y0 - x5) = true from decide_eq_true c1)]
    refine Eq.trans ?_ (if_pos c1).symm
    refine (q_blk (Y := mX6_copy) (q_dcC dX6_copy_39 q_dcN) (show _ = some (40, [.ref 69, .int x1, .int x2, .int x3, .int x4, .int x5, .retAddr 0, .retAddr 0, .retAddr 0], [.int 0]) from rfl)).trans ?_
    exact k_iret (Y := mX6_copy) dX6_copy_40 rfl
  · rw [if_neg (show ¬ q_cc .gt y1 (y0 - x5) = true from fun z => c1 (of_decide_eq_true z))]
    refine Eq.trans ?_ (if_neg c1).symm
    refine (q_blk (Y := mX6_copy) (q_dcC dX6_copy_26 (q_dcC dX6_copy_28 (q_dcC dX6_copy_29 q_dcN))) (show _ = some (30, [.ref 69, .int x1, .int x2, .int x3, .int x4, .int x5, .retAddr 0, .retAddr 0, .retAddr 0], [.int x3, .ref 69, .int x4]) from rfl)).trans ?_
    exact K_calV (d := d) (Y := mX6_copy) (Z := mX6_size) (vs := [.int x3]) (rest := [.int x4]) (la := [.ref 69, .int x3]) dX6_copy_30 rfl rfl rfl rfl ⟨by decide, rfl⟩ (Nat.le_of_ble_eq_true rfl) rfl (Nat.le_of_ble_eq_true rfl)
theorem B_X6_copy_33 {o : q_H} (d : Nat) (x1 x2 x3 x4 x5 y0 y1 : Int32) (g : Nat → Nat → Int32) : q_sem (d) mX6_copy 33 [.ref 69, .int x1, .int x2, .int x3, .int x4, .int x5, .retAddr 0, .retAddr 0, .retAddr 0] [.int y0, .int y1] (q_K o g) = (if y1 ≤ (y0 - x5) then (if x4 ≤ x2 then q_sem (d) mX6_copy 57 [.ref 69, .int x1, .int x2, .int x3, .int x4, .int x5, .int 0, .int 0, .retAddr 0] [] (q_K o g) else q_sem (d) mX6_copy 57 [.ref 69, .int x1, .int x2, .int x3, .int x4, .int x5, .int 1, .int 0, .retAddr 0] [] (q_K o g)) else some (some (.int 0), q_K o g)) := by
  refine (q_blk (Y := mX6_copy) (q_dcC dX6_copy_33 (q_dcC dX6_copy_35 (q_dcC dX6_copy_36 q_dcN))) (show _ = some ((if q_cc .le y1 (y0 - x5) = true then 41 else 39), [.ref 69, .int x1, .int x2, .int x3, .int x4, .int x5, .retAddr 0, .retAddr 0, .retAddr 0], []) from rfl)).trans ?_
  by_cases c1 : y1 ≤ (y0 - x5)
  · rw [if_pos (show q_cc .le y1 (y0 - x5) = true from decide_eq_true c1)]
    refine Eq.trans ?_ (if_pos c1).symm
    refine (q_blk (Y := mX6_copy) (q_dcC dX6_copy_41 (q_dcC dX6_copy_43 (q_dcC dX6_copy_44 q_dcN))) (show _ = some ((if q_cc .le x4 x2 = true then 51 else 47), [.ref 69, .int x1, .int x2, .int x3, .int x4, .int x5, .retAddr 0, .retAddr 0, .retAddr 0], []) from rfl)).trans ?_
    by_cases c2 : x4 ≤ x2
    · rw [if_pos (show q_cc .le x4 x2 = true from decide_eq_true c2)]
      refine Eq.trans ?_ (if_pos c2).symm
      refine (q_blk (Y := mX6_copy) (q_dcC dX6_copy_51 (q_dcC dX6_copy_52 (q_dcC dX6_copy_54 (q_dcC dX6_copy_55 q_dcN)))) (show _ = some (57, [.ref 69, .int x1, .int x2, .int x3, .int x4, .int x5, .int 0, .int 0, .retAddr 0], []) from rfl)).trans ?_
      rfl
    · rw [if_neg (show ¬ q_cc .le x4 x2 = true from fun z => c2 (of_decide_eq_true z))]
      refine Eq.trans ?_ (if_neg c2).symm
      refine (q_blk (Y := mX6_copy) (q_dcC dX6_copy_47 (q_dcC dX6_copy_48 q_dcN)) (show _ = some (52, [.ref 69, .int x1, .int x2, .int x3, .int x4, .int x5, .retAddr 0, .retAddr 0, .retAddr 0], [.int 1]) from rfl)).trans ?_
      refine (q_blk (Y := mX6_copy) (q_dcC dX6_copy_52 (q_dcC dX6_copy_54 (q_dcC dX6_copy_55 q_dcN))) (show _ = some (57, [.ref 69, .int x1, .int x2, .int x3, .int x4, .int x5, .int 1, .int 0, .retAddr 0], []) from rfl)).trans ?_
      rfl
  · rw [if_neg (show ¬ q_cc .le y1 (y0 - x5) = true from fun z => c1 (of_decide_eq_true z))]
    refine Eq.trans ?_ (if_neg c1).symm
    refine (q_blk (Y := mX6_copy) (q_dcC dX6_copy_39 q_dcN) (show _ = some (40, [.ref 69, .int x1, .int x2, .int x3, .int x4, .int x5, .retAddr 0, .retAddr 0, .retAddr 0], [.int 0]) from rfl)).trans ?_
    exact k_iret (Y := mX6_copy) dX6_copy_40 rfl
theorem B_X6_copy_57 {o : q_H} (d : Nat) (x1 x2 x3 x4 x5 x6 x7 : Int32) (g : Nat → Nat → Int32) : q_sem (d + 1) mX6_copy 57 [.ref 69, .int x1, .int x2, .int x3, .int x4, .int x5, .int x6, .int x7, .retAddr 0] [] (q_K o g) = (if x5 ≤ x7 then some (some (.int 1), q_K o g) else (if x6 = 0 then (q_sem d mX6_get 0 [.ref 69, .int x1, .int (x2 + x7)] [] (q_K o g)).bind (fun r => q_sem (d + 1) mX6_copy 99 [.ref 69, .int x1, .int x2, .int x3, .int x4, .int x5, .int x6, .int x7, .int x7] (r.1.toList ++ [.int (x4 + x7), .int x3, .ref 69]) r.2) else (q_sem d mX6_get 0 [.ref 69, .int x1, .int (x2 + ((x5 - 1) - x7))] [] (q_K o g)).bind (fun r => q_sem (d + 1) mX6_copy 99 [.ref 69, .int x1, .int x2, .int x3, .int x4, .int x5, .int x6, .int x7, .int ((x5 - 1) - x7)] (r.1.toList ++ [.int (x4 + ((x5 - 1) - x7)), .int x3, .ref 69]) r.2))) := by
  refine (q_blk (Y := mX6_copy) (q_dcC dX6_copy_57 (q_dcC dX6_copy_59 (q_dcC dX6_copy_61 q_dcN))) (show _ = some ((if q_cc .ge x7 x5 = true then 108 else 64), [.ref 69, .int x1, .int x2, .int x3, .int x4, .int x5, .int x6, .int x7, .retAddr 0], []) from rfl)).trans ?_
  by_cases c1 : x5 ≤ x7
  · rw [if_pos (show q_cc .ge x7 x5 = true from decide_eq_true c1)]
    refine Eq.trans ?_ (if_pos c1).symm
    refine (q_blk (Y := mX6_copy) (q_dcC dX6_copy_108 q_dcN) (show _ = some (109, [.ref 69, .int x1, .int x2, .int x3, .int x4, .int x5, .int x6, .int x7, .retAddr 0], [.int 1]) from rfl)).trans ?_
    exact k_iret (Y := mX6_copy) dX6_copy_109 rfl
  · rw [if_neg (show ¬ q_cc .ge x7 x5 = true from fun z => c1 (of_decide_eq_true z))]
    refine Eq.trans ?_ (if_neg c1).symm
    refine (q_blk (Y := mX6_copy) (q_dcC dX6_copy_64 (q_dcC dX6_copy_66 q_dcN)) (show _ = some ((if q_cc .eq x6 0 = true then 79 else 69), [.ref 69, .int x1, .int x2, .int x3, .int x4, .int x5, .int x6, .int x7, .retAddr 0], []) from rfl)).trans ?_
    by_cases c2 : x6 = 0
    · rw [if_pos (show q_cc .eq x6 0 = true from decide_eq_true c2)]
      refine Eq.trans ?_ (if_pos c2).symm
      refine (q_blk (Y := mX6_copy) (q_dcC dX6_copy_79 (q_dcC dX6_copy_81 (q_dcC dX6_copy_83 (q_dcC dX6_copy_84 (q_dcC dX6_copy_85 (q_dcC dX6_copy_87 (q_dcC dX6_copy_89 (q_dcC dX6_copy_90 (q_dcC dX6_copy_91 (q_dcC dX6_copy_92 (q_dcC dX6_copy_93 (q_dcC dX6_copy_95 q_dcN)))))))))))) (show _ = some (96, [.ref 69, .int x1, .int x2, .int x3, .int x4, .int x5, .int x6, .int x7, .int x7], [.int (x2 + x7), .int x1, .ref 69, .int (x4 + x7), .int x3, .ref 69]) from rfl)).trans ?_
      exact K_calV (d := d) (Y := mX6_copy) (Z := mX6_get) (vs := [.int x1, .int (x2 + x7)]) (rest := [.int (x4 + x7), .int x3, .ref 69]) (la := [.ref 69, .int x1, .int (x2 + x7)]) dX6_copy_96 rfl rfl rfl rfl ⟨by decide, rfl⟩ (Nat.le_of_ble_eq_true rfl) rfl (Nat.le_of_ble_eq_true rfl)
    · rw [if_neg (show ¬ q_cc .eq x6 0 = true from fun z => c2 (of_decide_eq_true z))]
      refine Eq.trans ?_ (if_neg c2).symm
      refine (q_blk (Y := mX6_copy) (q_dcC dX6_copy_69 (q_dcC dX6_copy_71 (q_dcC dX6_copy_72 (q_dcC dX6_copy_73 (q_dcC dX6_copy_75 (q_dcC dX6_copy_76 q_dcN)))))) (show _ = some (81, [.ref 69, .int x1, .int x2, .int x3, .int x4, .int x5, .int x6, .int x7, .retAddr 0], [.int ((x5 - 1) - x7)]) from rfl)).trans ?_
      refine (q_blk (Y := mX6_copy) (q_dcC dX6_copy_81 (q_dcC dX6_copy_83 (q_dcC dX6_copy_84 (q_dcC dX6_copy_85 (q_dcC dX6_copy_87 (q_dcC dX6_copy_89 (q_dcC dX6_copy_90 (q_dcC dX6_copy_91 (q_dcC dX6_copy_92 (q_dcC dX6_copy_93 (q_dcC dX6_copy_95 q_dcN))))))))))) (show _ = some (96, [.ref 69, .int x1, .int x2, .int x3, .int x4, .int x5, .int x6, .int x7, .int ((x5 - 1) - x7)], [.int (x2 + ((x5 - 1) - x7)), .int x1, .ref 69, .int (x4 + ((x5 - 1) - x7)), .int x3, .ref 69]) from rfl)).trans ?_
      exact K_calV (d := d) (Y := mX6_copy) (Z := mX6_get) (vs := [.int x1, .int (x2 + ((x5 - 1) - x7))]) (rest := [.int (x4 + ((x5 - 1) - x7)), .int x3, .ref 69]) (la := [.ref 69, .int x1, .int (x2 + ((x5 - 1) - x7))]) dX6_copy_96 rfl rfl rfl rfl ⟨by decide, rfl⟩ (Nat.le_of_ble_eq_true rfl) rfl (Nat.le_of_ble_eq_true rfl)
theorem B_X6_copy_99 {o : q_H} (d : Nat) (x1 x2 x3 x4 x5 x6 x7 x8 y0 y1 y2 : Int32) (g : Nat → Nat → Int32) : q_sem (d + 1) mX6_copy 99 [.ref 69, .int x1, .int x2, .int x3, .int x4, .int x5, .int x6, .int x7, .int x8] [.int y0, .int y1, .int y2, .ref 69] (q_K o g) = (q_sem d mX6_write 0 [.ref 69, .int y2, .int y1, .int y0, .retAddr 0] [] (q_K o g)).bind (fun r => q_sem (d + 1) mX6_copy 102 [.ref 69, .int x1, .int x2, .int x3, .int x4, .int x5, .int x6, .int x7, .int x8] (r.1.toList ++ []) r.2) := by
  exact K_calV (d := d) (Y := mX6_copy) (Z := mX6_write) (vs := [.int y2, .int y1, .int y0]) (rest := []) (la := [.ref 69, .int y2, .int y1, .int y0, .retAddr 0]) dX6_copy_99 rfl rfl rfl rfl ⟨by decide, rfl⟩ (Nat.le_of_ble_eq_true rfl) rfl (Nat.le_of_ble_eq_true rfl)
theorem B_X6_copy_102 {o : q_H} (d : Nat) (x1 x2 x3 x4 x5 x6 x7 x8 : Int32) (g : Nat → Nat → Int32) : q_sem (d) mX6_copy 102 [.ref 69, .int x1, .int x2, .int x3, .int x4, .int x5, .int x6, .int x7, .int x8] [] (q_K o g) = q_sem (d) mX6_copy 57 [.ref 69, .int x1, .int x2, .int x3, .int x4, .int x5, .int x6, .int (x7 + 1), .int x8] [] (q_K o g) := by
  refine (q_blk (Y := mX6_copy) (q_dcC dX6_copy_102 (q_dcC dX6_copy_105 q_dcN)) (show _ = some (57, [.ref 69, .int x1, .int x2, .int x3, .int x4, .int x5, .int x6, .int (x7 + 1), .int x8], []) from rfl)).trans ?_
  rfl
theorem B_X6_copy_57a {o : q_H} (d : Nat) (x1 x2 x3 x4 x5 x6 x7 x8 : Int32) (g : Nat → Nat → Int32) : q_sem (d + 1) mX6_copy 57 [.ref 69, .int x1, .int x2, .int x3, .int x4, .int x5, .int x6, .int x7, .int x8] [] (q_K o g) = (if x5 ≤ x7 then some (some (.int 1), q_K o g) else (if x6 = 0 then (q_sem d mX6_get 0 [.ref 69, .int x1, .int (x2 + x7)] [] (q_K o g)).bind (fun r => q_sem (d + 1) mX6_copy 99 [.ref 69, .int x1, .int x2, .int x3, .int x4, .int x5, .int x6, .int x7, .int x7] (r.1.toList ++ [.int (x4 + x7), .int x3, .ref 69]) r.2) else (q_sem d mX6_get 0 [.ref 69, .int x1, .int (x2 + ((x5 - 1) - x7))] [] (q_K o g)).bind (fun r => q_sem (d + 1) mX6_copy 99 [.ref 69, .int x1, .int x2, .int x3, .int x4, .int x5, .int x6, .int x7, .int ((x5 - 1) - x7)] (r.1.toList ++ [.int (x4 + ((x5 - 1) - x7)), .int x3, .ref 69]) r.2))) := by
  refine (q_blk (Y := mX6_copy) (q_dcC dX6_copy_57 (q_dcC dX6_copy_59 (q_dcC dX6_copy_61 q_dcN))) (show _ = some ((if q_cc .ge x7 x5 = true then 108 else 64), [.ref 69, .int x1, .int x2, .int x3, .int x4, .int x5, .int x6, .int x7, .int x8], []) from rfl)).trans ?_
  by_cases c1 : x5 ≤ x7
  · rw [if_pos (show q_cc .ge x7 x5 = true from decide_eq_true c1)]
    refine Eq.trans ?_ (if_pos c1).symm
    refine (q_blk (Y := mX6_copy) (q_dcC dX6_copy_108 q_dcN) (show _ = some (109, [.ref 69, .int x1, .int x2, .int x3, .int x4, .int x5, .int x6, .int x7, .int x8], [.int 1]) from rfl)).trans ?_
    exact k_iret (Y := mX6_copy) dX6_copy_109 rfl
  · rw [if_neg (show ¬ q_cc .ge x7 x5 = true from fun z => c1 (of_decide_eq_true z))]
    refine Eq.trans ?_ (if_neg c1).symm
    refine (q_blk (Y := mX6_copy) (q_dcC dX6_copy_64 (q_dcC dX6_copy_66 q_dcN)) (show _ = some ((if q_cc .eq x6 0 = true then 79 else 69), [.ref 69, .int x1, .int x2, .int x3, .int x4, .int x5, .int x6, .int x7, .int x8], []) from rfl)).trans ?_
    by_cases c2 : x6 = 0
    · rw [if_pos (show q_cc .eq x6 0 = true from decide_eq_true c2)]
      refine Eq.trans ?_ (if_pos c2).symm
      refine (q_blk (Y := mX6_copy) (q_dcC dX6_copy_79 (q_dcC dX6_copy_81 (q_dcC dX6_copy_83 (q_dcC dX6_copy_84 (q_dcC dX6_copy_85 (q_dcC dX6_copy_87 (q_dcC dX6_copy_89 (q_dcC dX6_copy_90 (q_dcC dX6_copy_91 (q_dcC dX6_copy_92 (q_dcC dX6_copy_93 (q_dcC dX6_copy_95 q_dcN)))))))))))) (show _ = some (96, [.ref 69, .int x1, .int x2, .int x3, .int x4, .int x5, .int x6, .int x7, .int x7], [.int (x2 + x7), .int x1, .ref 69, .int (x4 + x7), .int x3, .ref 69]) from rfl)).trans ?_
      exact K_calV (d := d) (Y := mX6_copy) (Z := mX6_get) (vs := [.int x1, .int (x2 + x7)]) (rest := [.int (x4 + x7), .int x3, .ref 69]) (la := [.ref 69, .int x1, .int (x2 + x7)]) dX6_copy_96 rfl rfl rfl rfl ⟨by decide, rfl⟩ (Nat.le_of_ble_eq_true rfl) rfl (Nat.le_of_ble_eq_true rfl)
    · rw [if_neg (show ¬ q_cc .eq x6 0 = true from fun z => c2 (of_decide_eq_true z))]
      refine Eq.trans ?_ (if_neg c2).symm
      refine (q_blk (Y := mX6_copy) (q_dcC dX6_copy_69 (q_dcC dX6_copy_71 (q_dcC dX6_copy_72 (q_dcC dX6_copy_73 (q_dcC dX6_copy_75 (q_dcC dX6_copy_76 q_dcN)))))) (show _ = some (81, [.ref 69, .int x1, .int x2, .int x3, .int x4, .int x5, .int x6, .int x7, .int x8], [.int ((x5 - 1) - x7)]) from rfl)).trans ?_
      refine (q_blk (Y := mX6_copy) (q_dcC dX6_copy_81 (q_dcC dX6_copy_83 (q_dcC dX6_copy_84 (q_dcC dX6_copy_85 (q_dcC dX6_copy_87 (q_dcC dX6_copy_89 (q_dcC dX6_copy_90 (q_dcC dX6_copy_91 (q_dcC dX6_copy_92 (q_dcC dX6_copy_93 (q_dcC dX6_copy_95 q_dcN))))))))))) (show _ = some (96, [.ref 69, .int x1, .int x2, .int x3, .int x4, .int x5, .int x6, .int x7, .int ((x5 - 1) - x7)], [.int (x2 + ((x5 - 1) - x7)), .int x1, .ref 69, .int (x4 + ((x5 - 1) - x7)), .int x3, .ref 69]) from rfl)).trans ?_
      exact K_calV (d := d) (Y := mX6_copy) (Z := mX6_get) (vs := [.int x1, .int (x2 + ((x5 - 1) - x7))]) (rest := [.int (x4 + ((x5 - 1) - x7)), .int x3, .ref 69]) (la := [.ref 69, .int x1, .int (x2 + ((x5 - 1) - x7))]) dX6_copy_96 rfl rfl rfl rfl ⟨by decide, rfl⟩ (Nat.le_of_ble_eq_true rfl) rfl (Nat.le_of_ble_eq_true rfl)
theorem B_X8_read_0 {o : q_H} (d : Nat) (x1 : Int32) (g : Nat → Nat → Int32) : q_sem (d + 1) mX8_read 0 [.ref 67, .int x1] [] (q_K o g) = (q_sem d mX8_level 0 [.ref 67, .int 0, .int 0, .retAddr 0, .retAddr 0, .retAddr 0] [] (q_K o (q_up (q_up (q_up g 67 3 x1) 67 2 0) 67 4 0))).bind (fun r => q_sem (d + 1) mX8_read 21 [.ref 67, .int x1] (r.1.toList ++ []) r.2) := by
  refine (q_blk (Y := mX8_read) (q_dcC dX8_read_0 (q_dcC dX8_read_1 q_dcN)) (show _ = some (2, [.ref 67, .int x1], [.int x1, .ref 67]) from rfl)).trans ?_
  refine (k_puti (Y := mX8_read) dX8_read_2 rfl ⟨by decide, rfl⟩ (by decide) rfl rfl rfl rfl).trans ?_
  refine (q_blk (Y := mX8_read) (q_dcC dX8_read_5 (q_dcC dX8_read_6 q_dcN)) (show _ = some (7, [.ref 67, .int x1], [.int 0, .ref 67]) from rfl)).trans ?_
  refine (k_puti (Y := mX8_read) dX8_read_7 rfl ⟨by decide, rfl⟩ (by decide) rfl rfl rfl rfl).trans ?_
  refine (q_blk (Y := mX8_read) (q_dcC dX8_read_10 (q_dcC dX8_read_11 q_dcN)) (show _ = some (12, [.ref 67, .int x1], [.int 0, .ref 67]) from rfl)).trans ?_
  refine (k_puti (Y := mX8_read) dX8_read_12 rfl ⟨by decide, rfl⟩ (by decide) rfl rfl rfl rfl).trans ?_
  refine (q_blk (Y := mX8_read) (q_dcC dX8_read_15 (q_dcC dX8_read_16 (q_dcC dX8_read_17 q_dcN))) (show _ = some (18, [.ref 67, .int x1], [.int 0, .int 0, .ref 67]) from rfl)).trans ?_
  exact K_calV (d := d) (Y := mX8_read) (Z := mX8_level) (vs := [.int 0, .int 0]) (rest := []) (la := [.ref 67, .int 0, .int 0, .retAddr 0, .retAddr 0, .retAddr 0]) dX8_read_18 rfl rfl rfl rfl ⟨by decide, rfl⟩ (Nat.le_of_ble_eq_true rfl) rfl (Nat.le_of_ble_eq_true rfl)
theorem B_X8_read_21 {o : q_H} (d : Nat) (x1 y0 : Int32) (g : Nat → Nat → Int32) : q_sem (d + 1) mX8_read 21 [.ref 67, .int x1] [.int y0] (q_K o g) = (if y0 = 0 then some (some (.int 0), q_K o g) else (q_sem d mX7_size 0 [.ref 19] [] (q_K o g)).bind (fun r => q_sem (d + 1) mX8_read 35 [.ref 67, .int x1] (r.1.toList ++ [.int (g 67 4)]) r.2)) := by
  refine (q_blk (Y := mX8_read) (q_dcC dX8_read_21 q_dcN) (show _ = some ((if q_cc .eq y0 0 = true then 42 else 24), [.ref 67, .int x1], []) from rfl)).trans ?_
  by_cases c1 : y0 = 0
  · rw [if_pos (show q_cc .eq y0 0 = true from decide_eq_true c1)]
    refine Eq.trans ?_ (if_pos c1).symm
    refine (q_blk (Y := mX8_read) (q_dcC dX8_read_42 q_dcN) (show _ = some (43, [.ref 67, .int x1], [.int 0]) from rfl)).trans ?_
    exact k_iret (Y := mX8_read) dX8_read_43 rfl
  · rw [if_neg (show ¬ q_cc .eq y0 0 = true from fun z => c1 (of_decide_eq_true z))]
    refine Eq.trans ?_ (if_neg c1).symm
    refine (q_blk (Y := mX8_read) (q_dcC dX8_read_24 q_dcN) (show _ = some (25, [.ref 67, .int x1], [.ref 67]) from rfl)).trans ?_
    refine (k_geti (Y := mX8_read) dX8_read_25 rfl rfl ⟨by decide, rfl⟩ (by decide) rfl).trans ?_
    refine (q_blk (Y := mX8_read) (q_dcC dX8_read_28 q_dcN) (show _ = some (29, [.ref 67, .int x1], [.ref 67, .int (g 67 4)]) from rfl)).trans ?_
    refine (k_getr (Y := mX8_read) dX8_read_29 rfl rfl ⟨by decide, rfl⟩ (by decide) rfl).trans ?_
    exact K_calV (d := d) (Y := mX8_read) (Z := mX7_size) (vs := []) (rest := [.int (g 67 4)]) (la := [.ref 19]) dX8_read_32 rfl rfl rfl rfl ⟨by decide, rfl⟩ (Nat.le_of_ble_eq_true rfl) rfl (Nat.le_of_ble_eq_true rfl)
theorem B_X8_read_35 {o : q_H} (d : Nat) (x1 y0 y1 : Int32) (g : Nat → Nat → Int32) : q_sem (d) mX8_read 35 [.ref 67, .int x1] [.int y0, .int y1] (q_K o g) = (if y1 = y0 then some (some (.int 1), q_K o g) else some (some (.int 0), q_K o g)) := by
  refine (q_blk (Y := mX8_read) (q_dcC dX8_read_35 q_dcN) (show _ = some ((if q_cc .ne y1 y0 = true then 42 else 38), [.ref 67, .int x1], []) from rfl)).trans ?_
  by_cases c1 : y1 = y0
  · rw [if_neg (show ¬ q_cc .ne y1 y0 = true from fun z => (of_decide_eq_true z : ¬ y1 = y0) c1)]
    refine Eq.trans ?_ (if_pos c1).symm
    refine (q_blk (Y := mX8_read) (q_dcC dX8_read_38 (q_dcC dX8_read_39 q_dcN)) (show _ = some (43, [.ref 67, .int x1], [.int 1]) from rfl)).trans ?_
    exact k_iret (Y := mX8_read) dX8_read_43 rfl
  · rw [if_pos (show q_cc .ne y1 y0 = true from decide_eq_true c1)]
    refine Eq.trans ?_ (if_neg c1).symm
    refine (q_blk (Y := mX8_read) (q_dcC dX8_read_42 q_dcN) (show _ = some (43, [.ref 67, .int x1], [.int 0]) from rfl)).trans ?_
    exact k_iret (Y := mX8_read) dX8_read_43 rfl
theorem B_X8_place_0 {o : q_H} (d : Nat) (g : Nat → Nat → Int32) : q_sem (d) mX8_place 0 [.ref 67] [] (q_K o g) = some (some (.int (g 67 4)), q_K o g) := by
  refine (q_blk (Y := mX8_place) (q_dcC dX8_place_0 q_dcN) (show _ = some (1, [.ref 67], [.ref 67]) from rfl)).trans ?_
  refine (k_geti (Y := mX8_place) dX8_place_1 rfl rfl ⟨by decide, rfl⟩ (by decide) rfl).trans ?_
  exact k_iret (Y := mX8_place) dX8_place_4 rfl
theorem B_X8_size_0 {o : q_H} (d : Nat) (g : Nat → Nat → Int32) : q_sem (d) mX8_size 0 [.ref 67] [] (q_K o g) = some (some (.int (g 67 2)), q_K o g) := by
  refine (q_blk (Y := mX8_size) (q_dcC dX8_size_0 q_dcN) (show _ = some (1, [.ref 67], [.ref 67]) from rfl)).trans ?_
  refine (k_geti (Y := mX8_size) dX8_size_1 rfl rfl ⟨by decide, rfl⟩ (by decide) rfl).trans ?_
  exact k_iret (Y := mX8_size) dX8_size_4 rfl
theorem B_X8_code_0 {o : q_H} (d : Nat) (x1 : Int32) (g : Nat → Nat → Int32) : q_sem (d) mX8_code 0 [.ref 67, .int x1] [] (q_K o g) = (if x1 < 0 then some (some (.int 0), q_K o g) else (if 50 ≤ x1 then some (some (.int 0), q_K o g) else (q_rg x1 50 (fun j3 => some (some (.int (g 68 j3)), q_K o g))))) := by
  refine (q_blk (Y := mX8_code) (q_dcC dX8_code_0 (q_dcC dX8_code_1 q_dcN)) (show _ = some ((if q_cc .lt x1 0 = true then 22 else 4), [.ref 67, .int x1], []) from rfl)).trans ?_
  by_cases c1 : x1 < 0
  · rw [if_pos (show q_cc .lt x1 0 = true from decide_eq_true c1)]
    refine Eq.trans ?_ (if_pos c1).symm
    refine (q_blk (Y := mX8_code) (q_dcC dX8_code_22 q_dcN) (show _ = some (23, [.ref 67, .int x1], [.int 0]) from rfl)).trans ?_
    exact k_iret (Y := mX8_code) dX8_code_23 rfl
  · rw [if_neg (show ¬ q_cc .lt x1 0 = true from fun z => c1 (of_decide_eq_true z))]
    refine Eq.trans ?_ (if_neg c1).symm
    refine (q_blk (Y := mX8_code) (q_dcC dX8_code_4 (q_dcC dX8_code_5 q_dcN)) (show _ = some (6, [.ref 67, .int x1], [.ref 67, .int x1]) from rfl)).trans ?_
    refine (k_getr (Y := mX8_code) dX8_code_6 rfl rfl ⟨by decide, rfl⟩ (by decide) rfl).trans ?_
    refine (k_alen (Y := mX8_code) dX8_code_9 ⟨by decide, rfl, rfl⟩).trans ?_
    refine (q_blk (Y := mX8_code) (q_dcC dX8_code_10 q_dcN) (show _ = some ((if q_cc .ge x1 50 = true then 22 else 13), [.ref 67, .int x1], []) from rfl)).trans ?_
    by_cases c2 : 50 ≤ x1
    · rw [if_pos (show q_cc .ge x1 50 = true from decide_eq_true c2)]
      refine Eq.trans ?_ (if_pos c2).symm
      refine (q_blk (Y := mX8_code) (q_dcC dX8_code_22 q_dcN) (show _ = some (23, [.ref 67, .int x1], [.int 0]) from rfl)).trans ?_
      exact k_iret (Y := mX8_code) dX8_code_23 rfl
    · rw [if_neg (show ¬ q_cc .ge x1 50 = true from fun z => c2 (of_decide_eq_true z))]
      refine Eq.trans ?_ (if_neg c2).symm
      refine (q_blk (Y := mX8_code) (q_dcC dX8_code_13 q_dcN) (show _ = some (14, [.ref 67, .int x1], [.ref 67]) from rfl)).trans ?_
      refine (k_getr (Y := mX8_code) dX8_code_14 rfl rfl ⟨by decide, rfl⟩ (by decide) rfl).trans ?_
      refine (q_blk (Y := mX8_code) (q_dcC dX8_code_17 q_dcN) (show _ = some (18, [.ref 67, .int x1], [.int x1, .ref 68]) from rfl)).trans ?_
      by_cases c3 : q_inn x1 50
      rotate_left
      · refine Eq.trans ?_ (q_rgF c3).symm
        exact K_ialdX (Y := mX8_code) dX8_code_18 ⟨by decide, rfl, rfl⟩ c3
      refine Eq.trans ?_ (q_rgT c3).symm
      refine (K_iald (Y := mX8_code) dX8_code_18 ⟨by decide, rfl, rfl⟩ c3).trans ?_
      refine (q_blk (Y := mX8_code) (q_dcC dX8_code_19 q_dcN) (show _ = some (23, [.ref 67, .int x1], [.int (g 68 x1.toNatClampNeg)]) from rfl)).trans ?_
      exact k_iret (Y := mX8_code) dX8_code_23 rfl
theorem B_X8_level_0 {o : q_H} (d : Nat) (x1 x2 : Int32) (g : Nat → Nat → Int32) : q_sem (d + 1) mX8_level 0 [.ref 67, .int x1, .int x2, .retAddr 0, .retAddr 0, .retAddr 0] [] (q_K o g) = (if x1 < 5 then (q_sem d mX8_level 0 [.ref 67, .int (x1 + 1), .int x2, .retAddr 0, .retAddr 0, .retAddr 0] [] (q_K o g)).bind (fun r => q_sem (d + 1) mX8_level 19 [.ref 67, .int x1, .int x2, .retAddr 0, .retAddr 0, .retAddr 0] (r.1.toList ++ []) r.2) else (q_sem d mX8_part 0 [.ref 67, .int x2, .retAddr 0, .retAddr 0] [] (q_K o g)).bind (fun r => q_sem (d + 1) mX8_level 10 [.ref 67, .int x1, .int x2, .retAddr 0, .retAddr 0, .retAddr 0] (r.1.toList ++ []) r.2)) := by
  refine (q_blk (Y := mX8_level) (q_dcC dX8_level_0 (q_dcC dX8_level_1 (q_dcC dX8_level_2 q_dcN))) (show _ = some ((if q_cc .lt x1 5 = true then 11 else 5), [.ref 67, .int x1, .int x2, .retAddr 0, .retAddr 0, .retAddr 0], []) from rfl)).trans ?_
  by_cases c1 : x1 < 5
  · rw [if_pos (show q_cc .lt x1 5 = true from decide_eq_true c1)]
    refine Eq.trans ?_ (if_pos c1).symm
    refine (q_blk (Y := mX8_level) (q_dcC dX8_level_11 (q_dcC dX8_level_12 (q_dcC dX8_level_13 (q_dcC dX8_level_14 (q_dcC dX8_level_15 q_dcN))))) (show _ = some (16, [.ref 67, .int x1, .int x2, .retAddr 0, .retAddr 0, .retAddr 0], [.int x2, .int (x1 + 1), .ref 67]) from rfl)).trans ?_
    exact K_calV (d := d) (Y := mX8_level) (Z := mX8_level) (vs := [.int (x1 + 1), .int x2]) (rest := []) (la := [.ref 67, .int (x1 + 1), .int x2, .retAddr 0, .retAddr 0, .retAddr 0]) dX8_level_16 rfl rfl rfl rfl ⟨by decide, rfl⟩ (Nat.le_of_ble_eq_true rfl) rfl (Nat.le_of_ble_eq_true rfl)
  · rw [if_neg (show ¬ q_cc .lt x1 5 = true from fun z => c1 (of_decide_eq_true z))]
    refine Eq.trans ?_ (if_neg c1).symm
    refine (q_blk (Y := mX8_level) (q_dcC dX8_level_5 (q_dcC dX8_level_6 q_dcN)) (show _ = some (7, [.ref 67, .int x1, .int x2, .retAddr 0, .retAddr 0, .retAddr 0], [.int x2, .ref 67]) from rfl)).trans ?_
    exact K_calV (d := d) (Y := mX8_level) (Z := mX8_part) (vs := [.int x2]) (rest := []) (la := [.ref 67, .int x2, .retAddr 0, .retAddr 0]) dX8_level_7 rfl rfl rfl rfl ⟨by decide, rfl⟩ (Nat.le_of_ble_eq_true rfl) rfl (Nat.le_of_ble_eq_true rfl)
theorem B_X8_level_19 {o : q_H} (d : Nat) (x1 x2 y0 : Int32) (g : Nat → Nat → Int32) : q_sem (d) mX8_level 19 [.ref 67, .int x1, .int x2, .retAddr 0, .retAddr 0, .retAddr 0] [.int y0] (q_K o g) = (if y0 = 0 then some (some (.int 0), q_K o g) else (if x1 = 2 then q_sem (d) mX8_level 39 [.ref 67, .int x1, .int x2, .int 1, .int 0, .retAddr 0] [] (q_K o g) else q_sem (d) mX8_level 39 [.ref 67, .int x1, .int x2, .int 50, .int 0, .retAddr 0] [] (q_K o g))) := by
  refine (q_blk (Y := mX8_level) (q_dcC dX8_level_19 q_dcN) (show _ = some ((if q_cc .ne y0 0 = true then 24 else 22), [.ref 67, .int x1, .int x2, .retAddr 0, .retAddr 0, .retAddr 0], []) from rfl)).trans ?_
  by_cases c1 : y0 = 0
  · rw [if_neg (show ¬ q_cc .ne y0 0 = true from fun z => (of_decide_eq_true z : ¬ y0 = 0) c1)]
    refine Eq.trans ?_ (if_pos c1).symm
    refine (q_blk (Y := mX8_level) (q_dcC dX8_level_22 q_dcN) (show _ = some (23, [.ref 67, .int x1, .int x2, .retAddr 0, .retAddr 0, .retAddr 0], [.int 0]) from rfl)).trans ?_
    exact k_iret (Y := mX8_level) dX8_level_23 rfl
  · rw [if_pos (show q_cc .ne y0 0 = true from decide_eq_true c1)]
    refine Eq.trans ?_ (if_neg c1).symm
    refine (q_blk (Y := mX8_level) (q_dcC dX8_level_24 (q_dcC dX8_level_25 (q_dcC dX8_level_26 q_dcN))) (show _ = some ((if q_cc .ne x1 2 = true then 33 else 29), [.ref 67, .int x1, .int x2, .retAddr 0, .retAddr 0, .retAddr 0], []) from rfl)).trans ?_
    by_cases c2 : x1 = 2
    · rw [if_neg (show ¬ q_cc .ne x1 2 = true from fun z => (of_decide_eq_true z : ¬ x1 = 2) c2)]
      refine Eq.trans ?_ (if_pos c2).symm
      refine (q_blk (Y := mX8_level) (q_dcC dX8_level_29 (q_dcC dX8_level_30 q_dcN)) (show _ = some (35, [.ref 67, .int x1, .int x2, .retAddr 0, .retAddr 0, .retAddr 0], [.int 1]) from rfl)).trans ?_
      refine (q_blk (Y := mX8_level) (q_dcC dX8_level_35 (q_dcC dX8_level_36 (q_dcC dX8_level_37 q_dcN))) (show _ = some (39, [.ref 67, .int x1, .int x2, .int 1, .int 0, .retAddr 0], []) from rfl)).trans ?_
      rfl
    · rw [if_pos (show q_cc .ne x1 2 = true from decide_eq_true c2)]
      refine Eq.trans ?_ (if_neg c2).symm
      refine (q_blk (Y := mX8_level) (q_dcC dX8_level_33 (q_dcC dX8_level_35 (q_dcC dX8_level_36 (q_dcC dX8_level_37 q_dcN)))) (show _ = some (39, [.ref 67, .int x1, .int x2, .int 50, .int 0, .retAddr 0], []) from rfl)).trans ?_
      rfl
theorem B_X8_level_10 {o : q_H} (d : Nat) (x1 x2 y0 : Int32) (g : Nat → Nat → Int32) : q_sem (d) mX8_level 10 [.ref 67, .int x1, .int x2, .retAddr 0, .retAddr 0, .retAddr 0] [.int y0] (q_K o g) = (q_rB y0 (q_K o g)) := by
  exact k_iretB (Y := mX8_level) dX8_level_10 rfl
theorem B_X8_level_39 {o : q_H} (d : Nat) (x1 x2 x3 x4 : Int32) (g : Nat → Nat → Int32) : q_sem (d + 1) mX8_level 39 [.ref 67, .int x1, .int x2, .int x3, .int x4, .retAddr 0] [] (q_K o g) = (if x3 ≤ x4 then some (some (.int 1), q_K o g) else (q_sem d mX8_next 0 [.ref 67] [] (q_K o g)).bind (fun r => q_sem (d + 1) mX8_level 49 [.ref 67, .int x1, .int x2, .int x3, .int x4, .retAddr 0] (r.1.toList ++ []) r.2)) := by
  refine (q_blk (Y := mX8_level) (q_dcC dX8_level_39 (q_dcC dX8_level_41 (q_dcC dX8_level_42 q_dcN))) (show _ = some ((if q_cc .ge x4 x3 = true then 101 else 45), [.ref 67, .int x1, .int x2, .int x3, .int x4, .retAddr 0], []) from rfl)).trans ?_
  by_cases c1 : x3 ≤ x4
  · rw [if_pos (show q_cc .ge x4 x3 = true from decide_eq_true c1)]
    refine Eq.trans ?_ (if_pos c1).symm
    refine (q_blk (Y := mX8_level) (q_dcC dX8_level_101 q_dcN) (show _ = some (102, [.ref 67, .int x1, .int x2, .int x3, .int x4, .retAddr 0], [.int 1]) from rfl)).trans ?_
    exact k_iret (Y := mX8_level) dX8_level_102 rfl
  · rw [if_neg (show ¬ q_cc .ge x4 x3 = true from fun z => c1 (of_decide_eq_true z))]
    refine Eq.trans ?_ (if_neg c1).symm
    refine (q_blk (Y := mX8_level) (q_dcC dX8_level_45 q_dcN) (show _ = some (46, [.ref 67, .int x1, .int x2, .int x3, .int x4, .retAddr 0], [.ref 67]) from rfl)).trans ?_
    exact K_calV (d := d) (Y := mX8_level) (Z := mX8_next) (vs := []) (rest := []) (la := [.ref 67]) dX8_level_46 rfl rfl rfl rfl ⟨by decide, rfl⟩ (Nat.le_of_ble_eq_true rfl) rfl (Nat.le_of_ble_eq_true rfl)
theorem B_X8_level_49 {o : q_H} (d : Nat) (x1 x2 x3 x4 y0 : Int32) (g : Nat → Nat → Int32) : q_sem (d + 1) mX8_level 49 [.ref 67, .int x1, .int x2, .int x3, .int x4, .retAddr 0] [.int y0] (q_K o g) = (q_sem d mX8_joins 0 [.int y0, .int x1] [] (q_K o g)).bind (fun r => q_sem (d + 1) mX8_level 53 [.ref 67, .int x1, .int x2, .int x3, .int x4, .retAddr 0] (r.1.toList ++ []) r.2) := by
  refine (q_blk (Y := mX8_level) (q_dcC dX8_level_49 q_dcN) (show _ = some (50, [.ref 67, .int x1, .int x2, .int x3, .int x4, .retAddr 0], [.int x1, .int y0]) from rfl)).trans ?_
  exact K_calS (d := d) (Y := mX8_level) (Z := mX8_joins) (vs := [.int y0, .int x1]) (rest := []) (la := [.int y0, .int x1]) dX8_level_50 rfl rfl rfl rfl (Nat.le_of_ble_eq_true rfl) rfl (Nat.le_of_ble_eq_true rfl)
theorem B_X8_level_53 {o : q_H} (d : Nat) (x1 x2 x3 x4 y0 : Int32) (g : Nat → Nat → Int32) : q_sem (d + 1) mX8_level 53 [.ref 67, .int x1, .int x2, .int x3, .int x4, .retAddr 0] [.int y0] (q_K o g) = (if y0 = 0 then some (some (.int 1), q_K o g) else (q_sem d mX8_next 0 [.ref 67] [] (q_K o g)).bind (fun r => q_sem (d + 1) mX8_level 60 [.ref 67, .int x1, .int x2, .int x3, .int x4, .retAddr 0] (r.1.toList ++ []) r.2)) := by
  refine (q_blk (Y := mX8_level) (q_dcC dX8_level_53 q_dcN) (show _ = some ((if q_cc .eq y0 0 = true then 101 else 56), [.ref 67, .int x1, .int x2, .int x3, .int x4, .retAddr 0], []) from rfl)).trans ?_
  by_cases c1 : y0 = 0
  · rw [if_pos (show q_cc .eq y0 0 = true from decide_eq_true c1)]
    refine Eq.trans ?_ (if_pos c1).symm
    refine (q_blk (Y := mX8_level) (q_dcC dX8_level_101 q_dcN) (show _ = some (102, [.ref 67, .int x1, .int x2, .int x3, .int x4, .retAddr 0], [.int 1]) from rfl)).trans ?_
    exact k_iret (Y := mX8_level) dX8_level_102 rfl
  · rw [if_neg (show ¬ q_cc .eq y0 0 = true from fun z => c1 (of_decide_eq_true z))]
    refine Eq.trans ?_ (if_neg c1).symm
    refine (q_blk (Y := mX8_level) (q_dcC dX8_level_56 q_dcN) (show _ = some (57, [.ref 67, .int x1, .int x2, .int x3, .int x4, .retAddr 0], [.ref 67]) from rfl)).trans ?_
    exact K_calV (d := d) (Y := mX8_level) (Z := mX8_next) (vs := []) (rest := []) (la := [.ref 67]) dX8_level_57 rfl rfl rfl rfl ⟨by decide, rfl⟩ (Nat.le_of_ble_eq_true rfl) rfl (Nat.le_of_ble_eq_true rfl)
theorem B_X8_level_60 {o : q_H} (d : Nat) (x1 x2 x3 x4 y0 : Int32) (g : Nat → Nat → Int32) : q_sem (d + 1) mX8_level 60 [.ref 67, .int x1, .int x2, .int x3, .int x4, .retAddr 0] [.int y0] (q_K o g) = (q_sem d mX8_level 0 [.ref 67, .int (x1 + 1), .int x2, .retAddr 0, .retAddr 0, .retAddr 0] [] (q_K o (q_up g 67 4 ((g 67 4) + 1)))).bind (fun r => q_sem (d + 1) mX8_level 80 [.ref 67, .int x1, .int x2, .int x3, .int x4, .int y0] (r.1.toList ++ []) r.2) := by
  refine (q_blk (Y := mX8_level) (q_dcC dX8_level_60 (q_dcC dX8_level_62 (q_dcC dX8_level_63 q_dcN))) (show _ = some (64, [.ref 67, .int x1, .int x2, .int x3, .int x4, .int y0], [.ref 67, .ref 67]) from rfl)).trans ?_
  refine (k_geti (Y := mX8_level) dX8_level_64 rfl rfl ⟨by decide, rfl⟩ (by decide) rfl).trans ?_
  refine (q_blk (Y := mX8_level) (q_dcC dX8_level_67 (q_dcC dX8_level_68 q_dcN)) (show _ = some (69, [.ref 67, .int x1, .int x2, .int x3, .int x4, .int y0], [.int ((g 67 4) + 1), .ref 67]) from rfl)).trans ?_
  refine (k_puti (Y := mX8_level) dX8_level_69 rfl ⟨by decide, rfl⟩ (by decide) rfl rfl rfl rfl).trans ?_
  refine (q_blk (Y := mX8_level) (q_dcC dX8_level_72 (q_dcC dX8_level_73 (q_dcC dX8_level_74 (q_dcC dX8_level_75 (q_dcC dX8_level_76 q_dcN))))) (show _ = some (77, [.ref 67, .int x1, .int x2, .int x3, .int x4, .int y0], [.int x2, .int (x1 + 1), .ref 67]) from rfl)).trans ?_
  exact K_calV (d := d) (Y := mX8_level) (Z := mX8_level) (vs := [.int (x1 + 1), .int x2]) (rest := []) (la := [.ref 67, .int (x1 + 1), .int x2, .retAddr 0, .retAddr 0, .retAddr 0]) dX8_level_77 rfl rfl rfl rfl ⟨by decide, rfl⟩ (Nat.le_of_ble_eq_true rfl) rfl (Nat.le_of_ble_eq_true rfl)
theorem B_X8_level_80 {o : q_H} (d : Nat) (x1 x2 x3 x4 x5 y0 : Int32) (g : Nat → Nat → Int32) : q_sem (d + 1) mX8_level 80 [.ref 67, .int x1, .int x2, .int x3, .int x4, .int x5] [.int y0] (q_K o g) = (if y0 = 0 then some (some (.int 0), q_K o g) else (q_sem d mX8_emit 0 [.ref 67, .int (2000 + x5)] [] (q_K o g)).bind (fun r => q_sem (d + 1) mX8_level 95 [.ref 67, .int x1, .int x2, .int x3, .int x4, .int x5] (r.1.toList ++ []) r.2)) := by
  refine (q_blk (Y := mX8_level) (q_dcC dX8_level_80 q_dcN) (show _ = some ((if q_cc .ne y0 0 = true then 85 else 83), [.ref 67, .int x1, .int x2, .int x3, .int x4, .int x5], []) from rfl)).trans ?_
  by_cases c1 : y0 = 0
  · rw [if_neg (show ¬ q_cc .ne y0 0 = true from fun z => (of_decide_eq_true z : ¬ y0 = 0) c1)]
    refine Eq.trans ?_ (if_pos c1).symm
    refine (q_blk (Y := mX8_level) (q_dcC dX8_level_83 q_dcN) (show _ = some (84, [.ref 67, .int x1, .int x2, .int x3, .int x4, .int x5], [.int 0]) from rfl)).trans ?_
    exact k_iret (Y := mX8_level) dX8_level_84 rfl
  · rw [if_pos (show q_cc .ne y0 0 = true from decide_eq_true c1)]
    refine Eq.trans ?_ (if_neg c1).symm
    refine (q_blk (Y := mX8_level) (q_dcC dX8_level_85 (q_dcC dX8_level_86 (q_dcC dX8_level_89 (q_dcC dX8_level_91 q_dcN)))) (show _ = some (92, [.ref 67, .int x1, .int x2, .int x3, .int x4, .int x5], [.int (2000 + x5), .ref 67]) from rfl)).trans ?_
    exact K_calV (d := d) (Y := mX8_level) (Z := mX8_emit) (vs := [.int (2000 + x5)]) (rest := []) (la := [.ref 67, .int (2000 + x5)]) dX8_level_92 rfl rfl rfl rfl ⟨by decide, rfl⟩ (Nat.le_of_ble_eq_true rfl) rfl (Nat.le_of_ble_eq_true rfl)
theorem B_X8_level_95 {o : q_H} (d : Nat) (x1 x2 x3 x4 x5 : Int32) (g : Nat → Nat → Int32) : q_sem (d) mX8_level 95 [.ref 67, .int x1, .int x2, .int x3, .int x4, .int x5] [] (q_K o g) = q_sem (d) mX8_level 39 [.ref 67, .int x1, .int x2, .int x3, .int (x4 + 1), .int x5] [] (q_K o g) := by
  refine (q_blk (Y := mX8_level) (q_dcC dX8_level_95 (q_dcC dX8_level_98 q_dcN)) (show _ = some (39, [.ref 67, .int x1, .int x2, .int x3, .int (x4 + 1), .int x5], []) from rfl)).trans ?_
  rfl
theorem B_X8_level_39a {o : q_H} (d : Nat) (x1 x2 x3 x4 x5 : Int32) (g : Nat → Nat → Int32) : q_sem (d + 1) mX8_level 39 [.ref 67, .int x1, .int x2, .int x3, .int x4, .int x5] [] (q_K o g) = (if x3 ≤ x4 then some (some (.int 1), q_K o g) else (q_sem d mX8_next 0 [.ref 67] [] (q_K o g)).bind (fun r => q_sem (d + 1) mX8_level 49 [.ref 67, .int x1, .int x2, .int x3, .int x4, .int x5] (r.1.toList ++ []) r.2)) := by
  refine (q_blk (Y := mX8_level) (q_dcC dX8_level_39 (q_dcC dX8_level_41 (q_dcC dX8_level_42 q_dcN))) (show _ = some ((if q_cc .ge x4 x3 = true then 101 else 45), [.ref 67, .int x1, .int x2, .int x3, .int x4, .int x5], []) from rfl)).trans ?_
  by_cases c1 : x3 ≤ x4
  · rw [if_pos (show q_cc .ge x4 x3 = true from decide_eq_true c1)]
    refine Eq.trans ?_ (if_pos c1).symm
    refine (q_blk (Y := mX8_level) (q_dcC dX8_level_101 q_dcN) (show _ = some (102, [.ref 67, .int x1, .int x2, .int x3, .int x4, .int x5], [.int 1]) from rfl)).trans ?_
    exact k_iret (Y := mX8_level) dX8_level_102 rfl
  · rw [if_neg (show ¬ q_cc .ge x4 x3 = true from fun z => c1 (of_decide_eq_true z))]
    refine Eq.trans ?_ (if_neg c1).symm
    refine (q_blk (Y := mX8_level) (q_dcC dX8_level_45 q_dcN) (show _ = some (46, [.ref 67, .int x1, .int x2, .int x3, .int x4, .int x5], [.ref 67]) from rfl)).trans ?_
    exact K_calV (d := d) (Y := mX8_level) (Z := mX8_next) (vs := []) (rest := []) (la := [.ref 67]) dX8_level_46 rfl rfl rfl rfl ⟨by decide, rfl⟩ (Nat.le_of_ble_eq_true rfl) rfl (Nat.le_of_ble_eq_true rfl)
theorem B_X8_level_49a {o : q_H} (d : Nat) (x1 x2 x3 x4 x5 y0 : Int32) (g : Nat → Nat → Int32) : q_sem (d + 1) mX8_level 49 [.ref 67, .int x1, .int x2, .int x3, .int x4, .int x5] [.int y0] (q_K o g) = (q_sem d mX8_joins 0 [.int y0, .int x1] [] (q_K o g)).bind (fun r => q_sem (d + 1) mX8_level 53 [.ref 67, .int x1, .int x2, .int x3, .int x4, .int x5] (r.1.toList ++ []) r.2) := by
  refine (q_blk (Y := mX8_level) (q_dcC dX8_level_49 q_dcN) (show _ = some (50, [.ref 67, .int x1, .int x2, .int x3, .int x4, .int x5], [.int x1, .int y0]) from rfl)).trans ?_
  exact K_calS (d := d) (Y := mX8_level) (Z := mX8_joins) (vs := [.int y0, .int x1]) (rest := []) (la := [.int y0, .int x1]) dX8_level_50 rfl rfl rfl rfl (Nat.le_of_ble_eq_true rfl) rfl (Nat.le_of_ble_eq_true rfl)
theorem B_X8_level_53a {o : q_H} (d : Nat) (x1 x2 x3 x4 x5 y0 : Int32) (g : Nat → Nat → Int32) : q_sem (d + 1) mX8_level 53 [.ref 67, .int x1, .int x2, .int x3, .int x4, .int x5] [.int y0] (q_K o g) = (if y0 = 0 then some (some (.int 1), q_K o g) else (q_sem d mX8_next 0 [.ref 67] [] (q_K o g)).bind (fun r => q_sem (d + 1) mX8_level 60 [.ref 67, .int x1, .int x2, .int x3, .int x4, .int x5] (r.1.toList ++ []) r.2)) := by
  refine (q_blk (Y := mX8_level) (q_dcC dX8_level_53 q_dcN) (show _ = some ((if q_cc .eq y0 0 = true then 101 else 56), [.ref 67, .int x1, .int x2, .int x3, .int x4, .int x5], []) from rfl)).trans ?_
  by_cases c1 : y0 = 0
  · rw [if_pos (show q_cc .eq y0 0 = true from decide_eq_true c1)]
    refine Eq.trans ?_ (if_pos c1).symm
    refine (q_blk (Y := mX8_level) (q_dcC dX8_level_101 q_dcN) (show _ = some (102, [.ref 67, .int x1, .int x2, .int x3, .int x4, .int x5], [.int 1]) from rfl)).trans ?_
    exact k_iret (Y := mX8_level) dX8_level_102 rfl
  · rw [if_neg (show ¬ q_cc .eq y0 0 = true from fun z => c1 (of_decide_eq_true z))]
    refine Eq.trans ?_ (if_neg c1).symm
    refine (q_blk (Y := mX8_level) (q_dcC dX8_level_56 q_dcN) (show _ = some (57, [.ref 67, .int x1, .int x2, .int x3, .int x4, .int x5], [.ref 67]) from rfl)).trans ?_
    exact K_calV (d := d) (Y := mX8_level) (Z := mX8_next) (vs := []) (rest := []) (la := [.ref 67]) dX8_level_57 rfl rfl rfl rfl ⟨by decide, rfl⟩ (Nat.le_of_ble_eq_true rfl) rfl (Nat.le_of_ble_eq_true rfl)
theorem B_X8_level_60a {o : q_H} (d : Nat) (x1 x2 x3 x4 x5 y0 : Int32) (g : Nat → Nat → Int32) : q_sem (d + 1) mX8_level 60 [.ref 67, .int x1, .int x2, .int x3, .int x4, .int x5] [.int y0] (q_K o g) = (q_sem d mX8_level 0 [.ref 67, .int (x1 + 1), .int x2, .retAddr 0, .retAddr 0, .retAddr 0] [] (q_K o (q_up g 67 4 ((g 67 4) + 1)))).bind (fun r => q_sem (d + 1) mX8_level 80 [.ref 67, .int x1, .int x2, .int x3, .int x4, .int y0] (r.1.toList ++ []) r.2) := by
  refine (q_blk (Y := mX8_level) (q_dcC dX8_level_60 (q_dcC dX8_level_62 (q_dcC dX8_level_63 q_dcN))) (show _ = some (64, [.ref 67, .int x1, .int x2, .int x3, .int x4, .int y0], [.ref 67, .ref 67]) from rfl)).trans ?_
  refine (k_geti (Y := mX8_level) dX8_level_64 rfl rfl ⟨by decide, rfl⟩ (by decide) rfl).trans ?_
  refine (q_blk (Y := mX8_level) (q_dcC dX8_level_67 (q_dcC dX8_level_68 q_dcN)) (show _ = some (69, [.ref 67, .int x1, .int x2, .int x3, .int x4, .int y0], [.int ((g 67 4) + 1), .ref 67]) from rfl)).trans ?_
  refine (k_puti (Y := mX8_level) dX8_level_69 rfl ⟨by decide, rfl⟩ (by decide) rfl rfl rfl rfl).trans ?_
  refine (q_blk (Y := mX8_level) (q_dcC dX8_level_72 (q_dcC dX8_level_73 (q_dcC dX8_level_74 (q_dcC dX8_level_75 (q_dcC dX8_level_76 q_dcN))))) (show _ = some (77, [.ref 67, .int x1, .int x2, .int x3, .int x4, .int y0], [.int x2, .int (x1 + 1), .ref 67]) from rfl)).trans ?_
  exact K_calV (d := d) (Y := mX8_level) (Z := mX8_level) (vs := [.int (x1 + 1), .int x2]) (rest := []) (la := [.ref 67, .int (x1 + 1), .int x2, .retAddr 0, .retAddr 0, .retAddr 0]) dX8_level_77 rfl rfl rfl rfl ⟨by decide, rfl⟩ (Nat.le_of_ble_eq_true rfl) rfl (Nat.le_of_ble_eq_true rfl)
theorem B_X8_joins_0 {o : q_H} (d : Nat) (x0 x1 : Int32) (g : Nat → Nat → Int32) : q_sem (d) mX8_joins 0 [.int x0, .int x1] [] (q_K o g) = (if x1 = 0 then (if x0 = 124 then some (some (.int 1), q_K o g) else some (some (.int 0), q_K o g)) else (if x1 = 1 then (if x0 = 38 then some (some (.int 1), q_K o g) else some (some (.int 0), q_K o g)) else (if x1 = 2 then (if x0 = 60 then some (some (.int 1), q_K o g) else (if x0 = 61 then some (some (.int 1), q_K o g) else (if x0 = 62 then some (some (.int 1), q_K o g) else some (some (.int 0), q_K o g)))) else (if x1 = 3 then (if x0 = 43 then some (some (.int 1), q_K o g) else (if x0 = 45 then some (some (.int 1), q_K o g) else some (some (.int 0), q_K o g))) else (if x0 = 42 then some (some (.int 1), q_K o g) else some (some (.int 0), q_K o g)))))) := by
  refine (q_blk (Y := mX8_joins) (q_dcC dX8_joins_0 q_dcN) (show _ = some (1, [.int x0, .int x1], [.int x1]) from rfl)).trans ?_
  by_cases c1 : x1 = 0
  · refine Eq.trans ?_ (if_pos c1).symm
    refine (k_sw (Y := mX8_joins) (t := 32) dX8_joins_1 rfl ⟨rfl, rfl⟩ (by rw [c1]; rfl)).trans ?_
    refine (q_blk (Y := mX8_joins) (q_dcC dX8_joins_32 (q_dcC dX8_joins_33 (q_dcC dX8_joins_35 q_dcN))) (show _ = some ((if q_cc .ne x0 124 = true then 42 else 38), [.int x0, .int x1], []) from rfl)).trans ?_
    by_cases c2 : x0 = 124
    · rw [if_neg (show ¬ q_cc .ne x0 124 = true from fun z => (of_decide_eq_true z : ¬ x0 = 124) c2)]
      refine Eq.trans ?_ (if_pos c2).symm
      refine (q_blk (Y := mX8_joins) (q_dcC dX8_joins_38 (q_dcC dX8_joins_39 q_dcN)) (show _ = some (43, [.int x0, .int x1], [.int 1]) from rfl)).trans ?_
      exact k_iret (Y := mX8_joins) dX8_joins_43 rfl
    · rw [if_pos (show q_cc .ne x0 124 = true from decide_eq_true c2)]
      refine Eq.trans ?_ (if_neg c2).symm
      refine (q_blk (Y := mX8_joins) (q_dcC dX8_joins_42 q_dcN) (show _ = some (43, [.int x0, .int x1], [.int 0]) from rfl)).trans ?_
      exact k_iret (Y := mX8_joins) dX8_joins_43 rfl
  refine Eq.trans ?_ (if_neg c1).symm
  by_cases c3 : x1 = 1
  · refine Eq.trans ?_ (if_pos c3).symm
    refine (k_sw (Y := mX8_joins) (t := 44) dX8_joins_1 rfl ⟨rfl, rfl⟩ (by rw [c3]; rfl)).trans ?_
    refine (q_blk (Y := mX8_joins) (q_dcC dX8_joins_44 (q_dcC dX8_joins_45 (q_dcC dX8_joins_47 q_dcN))) (show _ = some ((if q_cc .ne x0 38 = true then 54 else 50), [.int x0, .int x1], []) from rfl)).trans ?_
    by_cases c4 : x0 = 38
    · rw [if_neg (show ¬ q_cc .ne x0 38 = true from fun z => (of_decide_eq_true z : ¬ x0 = 38) c4)]
      refine Eq.trans ?_ (if_pos c4).symm
      refine (q_blk (Y := mX8_joins) (q_dcC dX8_joins_50 (q_dcC dX8_joins_51 q_dcN)) (show _ = some (55, [.int x0, .int x1], [.int 1]) from rfl)).trans ?_
      exact k_iret (Y := mX8_joins) dX8_joins_55 rfl
    · rw [if_pos (show q_cc .ne x0 38 = true from decide_eq_true c4)]
      refine Eq.trans ?_ (if_neg c4).symm
      refine (q_blk (Y := mX8_joins) (q_dcC dX8_joins_54 q_dcN) (show _ = some (55, [.int x0, .int x1], [.int 0]) from rfl)).trans ?_
      exact k_iret (Y := mX8_joins) dX8_joins_55 rfl
  refine Eq.trans ?_ (if_neg c3).symm
  by_cases c5 : x1 = 2
  · refine Eq.trans ?_ (if_pos c5).symm
    refine (k_sw (Y := mX8_joins) (t := 56) dX8_joins_1 rfl ⟨rfl, rfl⟩ (by rw [c5]; rfl)).trans ?_
    refine (q_blk (Y := mX8_joins) (q_dcC dX8_joins_56 (q_dcC dX8_joins_57 (q_dcC dX8_joins_59 q_dcN))) (show _ = some ((if q_cc .eq x0 60 = true then 74 else 62), [.int x0, .int x1], []) from rfl)).trans ?_
    by_cases c6 : x0 = 60
    · rw [if_pos (show q_cc .eq x0 60 = true from decide_eq_true c6)]
      refine Eq.trans ?_ (if_pos c6).symm
      refine (q_blk (Y := mX8_joins) (q_dcC dX8_joins_74 (q_dcC dX8_joins_75 q_dcN)) (show _ = some (79, [.int x0, .int x1], [.int 1]) from rfl)).trans ?_
      exact k_iret (Y := mX8_joins) dX8_joins_79 rfl
    · rw [if_neg (show ¬ q_cc .eq x0 60 = true from fun z => c6 (of_decide_eq_true z))]
      refine Eq.trans ?_ (if_neg c6).symm
      refine (q_blk (Y := mX8_joins) (q_dcC dX8_joins_62 (q_dcC dX8_joins_63 (q_dcC dX8_joins_65 q_dcN))) (show _ = some ((if q_cc .eq x0 61 = true then 74 else 68), [.int x0, .int x1], []) from rfl)).trans ?_
      by_cases c7 : x0 = 61
      · rw [if_pos (show q_cc .eq x0 61 = true from decide_eq_true c7)]
        refine Eq.trans ?_ (if_pos c7).symm
        refine (q_blk (Y := mX8_joins) (q_dcC dX8_joins_74 (q_dcC dX8_joins_75 q_dcN)) (show _ = some (79, [.int x0, .int x1], [.int 1]) from rfl)).trans ?_
        exact k_iret (Y := mX8_joins) dX8_joins_79 rfl
      · rw [if_neg (show ¬ q_cc .eq x0 61 = true from fun z => c7 (of_decide_eq_true z))]
        refine Eq.trans ?_ (if_neg c7).symm
        refine (q_blk (Y := mX8_joins) (q_dcC dX8_joins_68 (q_dcC dX8_joins_69 (q_dcC dX8_joins_71 q_dcN))) (show _ = some ((if q_cc .ne x0 62 = true then 78 else 74), [.int x0, .int x1], []) from rfl)).trans ?_
        by_cases c8 : x0 = 62
        · rw [if_neg (show ¬ q_cc .ne x0 62 = true from fun z => (of_decide_eq_true z : ¬ x0 = 62) c8)]
          refine Eq.trans ?_ (if_pos c8).symm
          refine (q_blk (Y := mX8_joins) (q_dcC dX8_joins_74 (q_dcC dX8_joins_75 q_dcN)) (show _ = some (79, [.int x0, .int x1], [.int 1]) from rfl)).trans ?_
          exact k_iret (Y := mX8_joins) dX8_joins_79 rfl
        · rw [if_pos (show q_cc .ne x0 62 = true from decide_eq_true c8)]
          refine Eq.trans ?_ (if_neg c8).symm
          refine (q_blk (Y := mX8_joins) (q_dcC dX8_joins_78 q_dcN) (show _ = some (79, [.int x0, .int x1], [.int 0]) from rfl)).trans ?_
          exact k_iret (Y := mX8_joins) dX8_joins_79 rfl
  refine Eq.trans ?_ (if_neg c5).symm
  by_cases c9 : x1 = 3
  · refine Eq.trans ?_ (if_pos c9).symm
    refine (k_sw (Y := mX8_joins) (t := 80) dX8_joins_1 rfl ⟨rfl, rfl⟩ (by rw [c9]; rfl)).trans ?_
    refine (q_blk (Y := mX8_joins) (q_dcC dX8_joins_80 (q_dcC dX8_joins_81 (q_dcC dX8_joins_83 q_dcN))) (show _ = some ((if q_cc .eq x0 43 = true then 92 else 86), [.int x0, .int x1], []) from rfl)).trans ?_
    by_cases c10 : x0 = 43
    · rw [if_pos (show q_cc .eq x0 43 = true from decide_eq_true c10)]
      refine Eq.trans ?_ (if_pos c10).symm
      refine (q_blk (Y := mX8_joins) (q_dcC dX8_joins_92 (q_dcC dX8_joins_93 q_dcN)) (show _ = some (97, [.int x0, .int x1], [.int 1]) from rfl)).trans ?_
      exact k_iret (Y := mX8_joins) dX8_joins_97 rfl
    · rw [if_neg (show ¬ q_cc .eq x0 43 = true from fun z => c10 (of_decide_eq_true z))]
      refine Eq.trans ?_ (if_neg c10).symm
      refine (q_blk (Y := mX8_joins) (q_dcC dX8_joins_86 (q_dcC dX8_joins_87 (q_dcC dX8_joins_89 q_dcN))) (show _ = some ((if q_cc .ne x0 45 = true then 96 else 92), [.int x0, .int x1], []) from rfl)).trans ?_
      by_cases c11 : x0 = 45
      · rw [if_neg (show ¬ q_cc .ne x0 45 = true from fun z => (of_decide_eq_true z : ¬ x0 = 45) c11)]
        refine Eq.trans ?_ (if_pos c11).symm
        refine (q_blk (Y := mX8_joins) (q_dcC dX8_joins_92 (q_dcC dX8_joins_93 q_dcN)) (show _ = some (97, [.int x0, .int x1], [.int 1]) from rfl)).trans ?_
        exact k_iret (Y := mX8_joins) dX8_joins_97 rfl
      · rw [if_pos (show q_cc .ne x0 45 = true from decide_eq_true c11)]
        refine Eq.trans ?_ (if_neg c11).symm
        refine (q_blk (Y := mX8_joins) (q_dcC dX8_joins_96 q_dcN) (show _ = some (97, [.int x0, .int x1], [.int 0]) from rfl)).trans ?_
        exact k_iret (Y := mX8_joins) dX8_joins_97 rfl
  refine Eq.trans ?_ (if_neg c9).symm
  refine (k_swD (Y := mX8_joins) (t := 98) dX8_joins_1 (q_tso (x1) 0 4 (fun k hk => by rcases k with _ | _ | _ | _ | k; exact c1; exact c3; exact c5; exact c9; exact absurd hk (by omega))) rfl).trans ?_
  refine (q_blk (Y := mX8_joins) (q_dcC dX8_joins_98 (q_dcC dX8_joins_99 (q_dcC dX8_joins_101 q_dcN))) (show _ = some ((if q_cc .ne x0 42 = true then 108 else 104), [.int x0, .int x1], []) from rfl)).trans ?_
  by_cases c12 : x0 = 42
  · rw [if_neg (show ¬ q_cc .ne x0 42 = true from fun z => (of_decide_eq_true z : ¬ x0 = 42) c12)]
    refine Eq.trans ?_ (if_pos c12).symm
    refine (q_blk (Y := mX8_joins) (q_dcC dX8_joins_104 (q_dcC dX8_joins_105 q_dcN)) (show _ = some (109, [.int x0, .int x1], [.int 1]) from rfl)).trans ?_
    exact k_iret (Y := mX8_joins) dX8_joins_109 rfl
  · rw [if_pos (show q_cc .ne x0 42 = true from decide_eq_true c12)]
    refine Eq.trans ?_ (if_neg c12).symm
    refine (q_blk (Y := mX8_joins) (q_dcC dX8_joins_108 q_dcN) (show _ = some (109, [.int x0, .int x1], [.int 0]) from rfl)).trans ?_
    exact k_iret (Y := mX8_joins) dX8_joins_109 rfl
theorem B_X8_part_0 {o : q_H} (d : Nat) (x1 : Int32) (g : Nat → Nat → Int32) : q_sem (d + 1) mX8_part 0 [.ref 67, .int x1, .retAddr 0, .retAddr 0] [] (q_K o g) = (q_sem d mX8_next 0 [.ref 67] [] (q_K o g)).bind (fun r => q_sem (d + 1) mX8_part 4 [.ref 67, .int x1, .retAddr 0, .retAddr 0] (r.1.toList ++ []) r.2) := by
  refine (q_blk (Y := mX8_part) (q_dcC dX8_part_0 q_dcN) (show _ = some (1, [.ref 67, .int x1, .retAddr 0, .retAddr 0], [.ref 67]) from rfl)).trans ?_
  exact K_calV (d := d) (Y := mX8_part) (Z := mX8_next) (vs := []) (rest := []) (la := [.ref 67]) dX8_part_1 rfl rfl rfl rfl ⟨by decide, rfl⟩ (Nat.le_of_ble_eq_true rfl) rfl (Nat.le_of_ble_eq_true rfl)
theorem B_X8_part_4 {o : q_H} (d : Nat) (x1 y0 : Int32) (g : Nat → Nat → Int32) : q_sem (d + 1) mX8_part 4 [.ref 67, .int x1, .retAddr 0, .retAddr 0] [.int y0] (q_K o g) = (q_sem d mX8_isDigit 0 [.int y0] [] (q_K o g)).bind (fun r => q_sem (d + 1) mX8_part 9 [.ref 67, .int x1, .int y0, .retAddr 0] (r.1.toList ++ []) r.2) := by
  refine (q_blk (Y := mX8_part) (q_dcC dX8_part_4 (q_dcC dX8_part_5 q_dcN)) (show _ = some (6, [.ref 67, .int x1, .int y0, .retAddr 0], [.int y0]) from rfl)).trans ?_
  exact K_calS (d := d) (Y := mX8_part) (Z := mX8_isDigit) (vs := [.int y0]) (rest := []) (la := [.int y0]) dX8_part_6 rfl rfl rfl rfl (Nat.le_of_ble_eq_true rfl) rfl (Nat.le_of_ble_eq_true rfl)
theorem B_X8_part_9 {o : q_H} (d : Nat) (x1 x2 y0 : Int32) (g : Nat → Nat → Int32) : q_sem (d + 1) mX8_part 9 [.ref 67, .int x1, .int x2, .retAddr 0] [.int y0] (q_K o g) = (if y0 = 0 then (q_sem d mX8_nameOf 0 [.ref 67, .int x2, .retAddr 0] [] (q_K o g)).bind (fun r => q_sem (d + 1) mX8_part 22 [.ref 67, .int x1, .int x2, .retAddr 0] (r.1.toList ++ []) r.2) else (q_sem d mX8_number 0 [.ref 67, .retAddr 0, .retAddr 0] [] (q_K o g)).bind (fun r => q_sem (d + 1) mX8_part 16 [.ref 67, .int x1, .int x2, .retAddr 0] (r.1.toList ++ []) r.2)) := by
  refine (q_blk (Y := mX8_part) (q_dcC dX8_part_9 q_dcN) (show _ = some ((if q_cc .eq y0 0 = true then 17 else 12), [.ref 67, .int x1, .int x2, .retAddr 0], []) from rfl)).trans ?_
  by_cases c1 : y0 = 0
  · rw [if_pos (show q_cc .eq y0 0 = true from decide_eq_true c1)]
    refine Eq.trans ?_ (if_pos c1).symm
    refine (q_blk (Y := mX8_part) (q_dcC dX8_part_17 (q_dcC dX8_part_18 q_dcN)) (show _ = some (19, [.ref 67, .int x1, .int x2, .retAddr 0], [.int x2, .ref 67]) from rfl)).trans ?_
    exact K_calV (d := d) (Y := mX8_part) (Z := mX8_nameOf) (vs := [.int x2]) (rest := []) (la := [.ref 67, .int x2, .retAddr 0]) dX8_part_19 rfl rfl rfl rfl ⟨by decide, rfl⟩ (Nat.le_of_ble_eq_true rfl) rfl (Nat.le_of_ble_eq_true rfl)
  · rw [if_neg (show ¬ q_cc .eq y0 0 = true from fun z => c1 (of_decide_eq_true z))]
    refine Eq.trans ?_ (if_neg c1).symm
    refine (q_blk (Y := mX8_part) (q_dcC dX8_part_12 q_dcN) (show _ = some (13, [.ref 67, .int x1, .int x2, .retAddr 0], [.ref 67]) from rfl)).trans ?_
    exact K_calV (d := d) (Y := mX8_part) (Z := mX8_number) (vs := []) (rest := []) (la := [.ref 67, .retAddr 0, .retAddr 0]) dX8_part_13 rfl rfl rfl rfl ⟨by decide, rfl⟩ (Nat.le_of_ble_eq_true rfl) rfl (Nat.le_of_ble_eq_true rfl)
theorem B_X8_part_22 {o : q_H} (d : Nat) (x1 x2 y0 : Int32) (g : Nat → Nat → Int32) : q_sem (d + 1) mX8_part 22 [.ref 67, .int x1, .int x2, .retAddr 0] [.int y0] (q_K o g) = (if y0 < 0 then (if x2 = 33 then (if x1 < 5 then (if x2 = 33 then (q_sem d mX8_turned 0 [.ref 67, .int (x1 + 1)] [] (q_K o (q_up g 67 4 ((g 67 4) + 1)))).bind (fun r => q_sem (d + 1) mX8_part 90 [.ref 67, .int x1, .int x2, .int y0] (r.1.toList ++ []) r.2) else (q_sem d mX8_bracketed 0 [.ref 67, .int (x1 + 1)] [] (q_K o (q_up g 67 4 ((g 67 4) + 1)))).bind (fun r => q_sem (d + 1) mX8_part 100 [.ref 67, .int x1, .int x2, .int y0] (r.1.toList ++ []) r.2)) else some (some (.int 0), q_K o g)) else (if x2 = 40 then (if x1 < 5 then (if x2 = 33 then (q_sem d mX8_turned 0 [.ref 67, .int (x1 + 1)] [] (q_K o (q_up g 67 4 ((g 67 4) + 1)))).bind (fun r => q_sem (d + 1) mX8_part 90 [.ref 67, .int x1, .int x2, .int y0] (r.1.toList ++ []) r.2) else (q_sem d mX8_bracketed 0 [.ref 67, .int (x1 + 1)] [] (q_K o (q_up g 67 4 ((g 67 4) + 1)))).bind (fun r => q_sem (d + 1) mX8_part 100 [.ref 67, .int x1, .int x2, .int y0] (r.1.toList ++ []) r.2)) else some (some (.int 0), q_K o g)) else some (some (.int 0), q_K o g))) else (q_sem d mX8_emit 0 [.ref 67, .int (1000 + y0)] [] (q_K o (q_up g 67 4 ((g 67 4) + 1)))).bind (fun r => q_sem (d + 1) mX8_part 46 [.ref 67, .int x1, .int x2, .int y0] (r.1.toList ++ []) r.2)) := by
  refine (q_blk (Y := mX8_part) (q_dcC dX8_part_22 (q_dcC dX8_part_23 (q_dcC dX8_part_24 q_dcN))) (show _ = some ((if q_cc .lt y0 0 = true then 48 else 27), [.ref 67, .int x1, .int x2, .int y0], []) from rfl)).trans ?_
  by_cases c1 : y0 < 0
  · rw [if_pos (show q_cc .lt y0 0 = true from decide_eq_true c1)]
    refine Eq.trans ?_ (if_pos c1).symm
    refine (q_blk (Y := mX8_part) (q_dcC dX8_part_48 (q_dcC dX8_part_49 (q_dcC dX8_part_51 q_dcN))) (show _ = some ((if q_cc .eq x2 33 = true then 60 else 54), [.ref 67, .int x1, .int x2, .int y0], []) from rfl)).trans ?_
    by_cases c2 : x2 = 33
    · rw [if_pos (show q_cc .eq x2 33 = true from decide_eq_true c2)]
      refine Eq.trans ?_ (if_pos c2).symm
      refine (q_blk (Y := mX8_part) (q_dcC dX8_part_60 (q_dcC dX8_part_61 (q_dcC dX8_part_62 q_dcN))) (show _ = some ((if q_cc .lt x1 5 = true then 67 else 65), [.ref 67, .int x1, .int x2, .int y0], []) from rfl)).trans ?_
      by_cases c3 : x1 < 5
      · rw [if_pos (show q_cc .lt x1 5 = true from decide_eq_true c3)]
        refine Eq.trans ?_ (if_pos c3).symm
        refine (q_blk (Y := mX8_part) (q_dcC dX8_part_67 (q_dcC dX8_part_68 q_dcN)) (show _ = some (69, [.ref 67, .int x1, .int x2, .int y0], [.ref 67, .ref 67]) from rfl)).trans ?_
        refine (k_geti (Y := mX8_part) dX8_part_69 rfl rfl ⟨by decide, rfl⟩ (by decide) rfl).trans ?_
        refine (q_blk (Y := mX8_part) (q_dcC dX8_part_72 (q_dcC dX8_part_73 q_dcN)) (show _ = some (74, [.ref 67, .int x1, .int x2, .int y0], [.int ((g 67 4) + 1), .ref 67]) from rfl)).trans ?_
        refine (k_puti (Y := mX8_part) dX8_part_74 rfl ⟨by decide, rfl⟩ (by decide) rfl rfl rfl rfl).trans ?_
        refine (q_blk (Y := mX8_part) (q_dcC dX8_part_77 (q_dcC dX8_part_78 (q_dcC dX8_part_80 q_dcN))) (show _ = some ((if q_cc .ne x2 33 = true then 93 else 83), [.ref 67, .int x1, .int x2, .int y0], []) from rfl)).trans ?_
        by_cases c4 : x2 = 33
        · rw [if_neg (show ¬ q_cc .ne x2 33 = true from fun z => (of_decide_eq_true z : ¬ x2 = 33) c4)]
          refine Eq.trans ?_ (if_pos c4).symm
          refine (q_blk (Y := mX8_part) (q_dcC dX8_part_83 (q_dcC dX8_part_84 (q_dcC dX8_part_85 (q_dcC dX8_part_86 q_dcN)))) (show _ = some (87, [.ref 67, .int x1, .int x2, .int y0], [.int (x1 + 1), .ref 67]) from rfl)).trans ?_
          exact K_calV (d := d) (Y := mX8_part) (Z := mX8_turned) (vs := [.int (x1 + 1)]) (rest := []) (la := [.ref 67, .int (x1 + 1)]) dX8_part_87 rfl rfl rfl rfl ⟨by decide, rfl⟩ (Nat.le_of_ble_eq_true rfl) rfl (Nat.le_of_ble_eq_true rfl)
        · rw [if_pos (show q_cc .ne x2 33 = true from decide_eq_true c4)]
          refine Eq.trans ?_ (if_neg c4).symm
          refine (q_blk (Y := mX8_part) (q_dcC dX8_part_93 (q_dcC dX8_part_94 (q_dcC dX8_part_95 (q_dcC dX8_part_96 q_dcN)))) (show _ = some (97, [.ref 67, .int x1, .int x2, .int y0], [.int (x1 + 1), .ref 67]) from rfl)).trans ?_
          exact K_calV (d := d) (Y := mX8_part) (Z := mX8_bracketed) (vs := [.int (x1 + 1)]) (rest := []) (la := [.ref 67, .int (x1 + 1)]) dX8_part_97 rfl rfl rfl rfl ⟨by decide, rfl⟩ (Nat.le_of_ble_eq_true rfl) rfl (Nat.le_of_ble_eq_true rfl)
      · rw [if_neg (show ¬ q_cc .lt x1 5 = true from fun z => c3 (of_decide_eq_true z))]
        refine Eq.trans ?_ (if_neg c3).symm
        refine (q_blk (Y := mX8_part) (q_dcC dX8_part_65 q_dcN) (show _ = some (66, [.ref 67, .int x1, .int x2, .int y0], [.int 0]) from rfl)).trans ?_
        exact k_iret (Y := mX8_part) dX8_part_66 rfl
    · rw [if_neg (show ¬ q_cc .eq x2 33 = true from fun z => c2 (of_decide_eq_true z))]
      refine Eq.trans ?_ (if_neg c2).symm
      refine (q_blk (Y := mX8_part) (q_dcC dX8_part_54 (q_dcC dX8_part_55 (q_dcC dX8_part_57 q_dcN))) (show _ = some ((if q_cc .ne x2 40 = true then 65 else 60), [.ref 67, .int x1, .int x2, .int y0], []) from rfl)).trans ?_
      by_cases c5 : x2 = 40
      · rw [if_neg (show ¬ q_cc .ne x2 40 = true from fun z => (of_decide_eq_true z : ¬ x2 = 40) c5)]
        refine Eq.trans ?_ (if_pos c5).symm
        refine (q_blk (Y := mX8_part) (q_dcC dX8_part_60 (q_dcC dX8_part_61 (q_dcC dX8_part_62 q_dcN))) (show _ = some ((if q_cc .lt x1 5 = true then 67 else 65), [.ref 67, .int x1, .int x2, .int y0], []) from rfl)).trans ?_
        by_cases c6 : x1 < 5
        · rw [if_pos (show q_cc .lt x1 5 = true from decide_eq_true c6)]
          refine Eq.trans ?_ (if_pos c6).symm
          refine (q_blk (Y := mX8_part) (q_dcC dX8_part_67 (q_dcC dX8_part_68 q_dcN)) (show _ = some (69, [.ref 67, .int x1, .int x2, .int y0], [.ref 67, .ref 67]) from rfl)).trans ?_
          refine (k_geti (Y := mX8_part) dX8_part_69 rfl rfl ⟨by decide, rfl⟩ (by decide) rfl).trans ?_
          refine (q_blk (Y := mX8_part) (q_dcC dX8_part_72 (q_dcC dX8_part_73 q_dcN)) (show _ = some (74, [.ref 67, .int x1, .int x2, .int y0], [.int ((g 67 4) + 1), .ref 67]) from rfl)).trans ?_
          refine (k_puti (Y := mX8_part) dX8_part_74 rfl ⟨by decide, rfl⟩ (by decide) rfl rfl rfl rfl).trans ?_
          refine (q_blk (Y := mX8_part) (q_dcC dX8_part_77 (q_dcC dX8_part_78 (q_dcC dX8_part_80 q_dcN))) (show _ = some ((if q_cc .ne x2 33 = true then 93 else 83), [.ref 67, .int x1, .int x2, .int y0], []) from rfl)).trans ?_
          by_cases c7 : x2 = 33
          · rw [if_neg (show ¬ q_cc .ne x2 33 = true from fun z => (of_decide_eq_true z : ¬ x2 = 33) c7)]
            refine Eq.trans ?_ (if_pos c7).symm
            refine (q_blk (Y := mX8_part) (q_dcC dX8_part_83 (q_dcC dX8_part_84 (q_dcC dX8_part_85 (q_dcC dX8_part_86 q_dcN)))) (show _ = some (87, [.ref 67, .int x1, .int x2, .int y0], [.int (x1 + 1), .ref 67]) from rfl)).trans ?_
            exact K_calV (d := d) (Y := mX8_part) (Z := mX8_turned) (vs := [.int (x1 + 1)]) (rest := []) (la := [.ref 67, .int (x1 + 1)]) dX8_part_87 rfl rfl rfl rfl ⟨by decide, rfl⟩ (Nat.le_of_ble_eq_true rfl) rfl (Nat.le_of_ble_eq_true rfl)
          · rw [if_pos (show q_cc .ne x2 33 = true from decide_eq_true c7)]
            refine Eq.trans ?_ (if_neg c7).symm
            refine (q_blk (Y := mX8_part) (q_dcC dX8_part_93 (q_dcC dX8_part_94 (q_dcC dX8_part_95 (q_dcC dX8_part_96 q_dcN)))) (show _ = some (97, [.ref 67, .int x1, .int x2, .int y0], [.int (x1 + 1), .ref 67]) from rfl)).trans ?_
            exact K_calV (d := d) (Y := mX8_part) (Z := mX8_bracketed) (vs := [.int (x1 + 1)]) (rest := []) (la := [.ref 67, .int (x1 + 1)]) dX8_part_97 rfl rfl rfl rfl ⟨by decide, rfl⟩ (Nat.le_of_ble_eq_true rfl) rfl (Nat.le_of_ble_eq_true rfl)
        · rw [if_neg (show ¬ q_cc .lt x1 5 = true from fun z => c6 (of_decide_eq_true z))]
          refine Eq.trans ?_ (if_neg c6).symm
          refine (q_blk (Y := mX8_part) (q_dcC dX8_part_65 q_dcN) (show _ = some (66, [.ref 67, .int x1, .int x2, .int y0], [.int 0]) from rfl)).trans ?_
          exact k_iret (Y := mX8_part) dX8_part_66 rfl
      · rw [if_pos (show q_cc .ne x2 40 = true from decide_eq_true c5)]
        refine Eq.trans ?_ (if_neg c5).symm
        refine (q_blk (Y := mX8_part) (q_dcC dX8_part_65 q_dcN) (show _ = some (66, [.ref 67, .int x1, .int x2, .int y0], [.int 0]) from rfl)).trans ?_
        exact k_iret (Y := mX8_part) dX8_part_66 rfl
  · rw [if_neg (show ¬ q_cc .lt y0 0 = true from fun z => c1 (of_decide_eq_true z))]
    refine Eq.trans ?_ (if_neg c1).symm
    refine (q_blk (Y := mX8_part) (q_dcC dX8_part_27 (q_dcC dX8_part_28 q_dcN)) (show _ = some (29, [.ref 67, .int x1, .int x2, .int y0], [.ref 67, .ref 67]) from rfl)).trans ?_
    refine (k_geti (Y := mX8_part) dX8_part_29 rfl rfl ⟨by decide, rfl⟩ (by decide) rfl).trans ?_
    refine (q_blk (Y := mX8_part) (q_dcC dX8_part_32 (q_dcC dX8_part_33 q_dcN)) (show _ = some (34, [.ref 67, .int x1, .int x2, .int y0], [.int ((g 67 4) + 1), .ref 67]) from rfl)).trans ?_
    refine (k_puti (Y := mX8_part) dX8_part_34 rfl ⟨by decide, rfl⟩ (by decide) rfl rfl rfl rfl).trans ?_
    refine (q_blk (Y := mX8_part) (q_dcC dX8_part_37 (q_dcC dX8_part_38 (q_dcC dX8_part_41 (q_dcC dX8_part_42 q_dcN)))) (show _ = some (43, [.ref 67, .int x1, .int x2, .int y0], [.int (1000 + y0), .ref 67]) from rfl)).trans ?_
    exact K_calV (d := d) (Y := mX8_part) (Z := mX8_emit) (vs := [.int (1000 + y0)]) (rest := []) (la := [.ref 67, .int (1000 + y0)]) dX8_part_43 rfl rfl rfl rfl ⟨by decide, rfl⟩ (Nat.le_of_ble_eq_true rfl) rfl (Nat.le_of_ble_eq_true rfl)
theorem B_X8_part_16 {o : q_H} (d : Nat) (x1 x2 y0 : Int32) (g : Nat → Nat → Int32) : q_sem (d) mX8_part 16 [.ref 67, .int x1, .int x2, .retAddr 0] [.int y0] (q_K o g) = (q_rB y0 (q_K o g)) := by
  exact k_iretB (Y := mX8_part) dX8_part_16 rfl
theorem B_X8_part_90 {o : q_H} (d : Nat) (x1 x2 x3 y0 : Int32) (g : Nat → Nat → Int32) : q_sem (d) mX8_part 90 [.ref 67, .int x1, .int x2, .int x3] [.int y0] (q_K o g) = (q_rB y0 (q_K o g)) := by
  refine (q_blk (Y := mX8_part) (q_dcC dX8_part_90 q_dcN) (show _ = some (100, [.ref 67, .int x1, .int x2, .int x3], [.int y0]) from rfl)).trans ?_
  exact k_iretB (Y := mX8_part) dX8_part_100 rfl
theorem B_X8_part_100 {o : q_H} (d : Nat) (x1 x2 x3 y0 : Int32) (g : Nat → Nat → Int32) : q_sem (d) mX8_part 100 [.ref 67, .int x1, .int x2, .int x3] [.int y0] (q_K o g) = (q_rB y0 (q_K o g)) := by
  exact k_iretB (Y := mX8_part) dX8_part_100 rfl
theorem B_X8_part_46 {o : q_H} (d : Nat) (x1 x2 x3 : Int32) (g : Nat → Nat → Int32) : q_sem (d) mX8_part 46 [.ref 67, .int x1, .int x2, .int x3] [] (q_K o g) = some (some (.int 1), q_K o g) := by
  refine (q_blk (Y := mX8_part) (q_dcC dX8_part_46 q_dcN) (show _ = some (47, [.ref 67, .int x1, .int x2, .int x3], [.int 1]) from rfl)).trans ?_
  exact k_iret (Y := mX8_part) dX8_part_47 rfl
theorem B_X8_turned_0 {o : q_H} (d : Nat) (x1 : Int32) (g : Nat → Nat → Int32) : q_sem (d + 1) mX8_turned 0 [.ref 67, .int x1] [] (q_K o g) = (q_sem d mX8_part 0 [.ref 67, .int x1, .retAddr 0, .retAddr 0] [] (q_K o g)).bind (fun r => q_sem (d + 1) mX8_turned 5 [.ref 67, .int x1] (r.1.toList ++ []) r.2) := by
  refine (q_blk (Y := mX8_turned) (q_dcC dX8_turned_0 (q_dcC dX8_turned_1 q_dcN)) (show _ = some (2, [.ref 67, .int x1], [.int x1, .ref 67]) from rfl)).trans ?_
  exact K_calV (d := d) (Y := mX8_turned) (Z := mX8_part) (vs := [.int x1]) (rest := []) (la := [.ref 67, .int x1, .retAddr 0, .retAddr 0]) dX8_turned_2 rfl rfl rfl rfl ⟨by decide, rfl⟩ (Nat.le_of_ble_eq_true rfl) rfl (Nat.le_of_ble_eq_true rfl)
theorem B_X8_turned_5 {o : q_H} (d : Nat) (x1 y0 : Int32) (g : Nat → Nat → Int32) : q_sem (d + 1) mX8_turned 5 [.ref 67, .int x1] [.int y0] (q_K o g) = (if y0 = 0 then some (some (.int 0), q_K o g) else (q_sem d mX8_emit 0 [.ref 67, .int 2033] [] (q_K o g)).bind (fun r => q_sem (d + 1) mX8_turned 17 [.ref 67, .int x1] (r.1.toList ++ []) r.2)) := by
  refine (q_blk (Y := mX8_turned) (q_dcC dX8_turned_5 q_dcN) (show _ = some ((if q_cc .ne y0 0 = true then 10 else 8), [.ref 67, .int x1], []) from rfl)).trans ?_
  by_cases c1 : y0 = 0
  · rw [if_neg (show ¬ q_cc .ne y0 0 = true from fun z => (of_decide_eq_true z : ¬ y0 = 0) c1)]
    refine Eq.trans ?_ (if_pos c1).symm
    refine (q_blk (Y := mX8_turned) (q_dcC dX8_turned_8 q_dcN) (show _ = some (9, [.ref 67, .int x1], [.int 0]) from rfl)).trans ?_
    exact k_iret (Y := mX8_turned) dX8_turned_9 rfl
  · rw [if_pos (show q_cc .ne y0 0 = true from decide_eq_true c1)]
    refine Eq.trans ?_ (if_neg c1).symm
    refine (q_blk (Y := mX8_turned) (q_dcC dX8_turned_10 (q_dcC dX8_turned_11 q_dcN)) (show _ = some (14, [.ref 67, .int x1], [.int 2033, .ref 67]) from rfl)).trans ?_
    exact K_calV (d := d) (Y := mX8_turned) (Z := mX8_emit) (vs := [.int 2033]) (rest := []) (la := [.ref 67, .int 2033]) dX8_turned_14 rfl rfl rfl rfl ⟨by decide, rfl⟩ (Nat.le_of_ble_eq_true rfl) rfl (Nat.le_of_ble_eq_true rfl)
theorem B_X8_turned_17 {o : q_H} (d : Nat) (x1 : Int32) (g : Nat → Nat → Int32) : q_sem (d) mX8_turned 17 [.ref 67, .int x1] [] (q_K o g) = some (some (.int 1), q_K o g) := by
  refine (q_blk (Y := mX8_turned) (q_dcC dX8_turned_17 q_dcN) (show _ = some (18, [.ref 67, .int x1], [.int 1]) from rfl)).trans ?_
  exact k_iret (Y := mX8_turned) dX8_turned_18 rfl
theorem B_X8_bracketed_0 {o : q_H} (d : Nat) (x1 : Int32) (g : Nat → Nat → Int32) : q_sem (d + 1) mX8_bracketed 0 [.ref 67, .int x1] [] (q_K o g) = (q_sem d mX8_level 0 [.ref 67, .int 0, .int x1, .retAddr 0, .retAddr 0, .retAddr 0] [] (q_K o g)).bind (fun r => q_sem (d + 1) mX8_bracketed 6 [.ref 67, .int x1] (r.1.toList ++ []) r.2) := by
  refine (q_blk (Y := mX8_bracketed) (q_dcC dX8_bracketed_0 (q_dcC dX8_bracketed_1 (q_dcC dX8_bracketed_2 q_dcN))) (show _ = some (3, [.ref 67, .int x1], [.int x1, .int 0, .ref 67]) from rfl)).trans ?_
  exact K_calV (d := d) (Y := mX8_bracketed) (Z := mX8_level) (vs := [.int 0, .int x1]) (rest := []) (la := [.ref 67, .int 0, .int x1, .retAddr 0, .retAddr 0, .retAddr 0]) dX8_bracketed_3 rfl rfl rfl rfl ⟨by decide, rfl⟩ (Nat.le_of_ble_eq_true rfl) rfl (Nat.le_of_ble_eq_true rfl)
theorem B_X8_bracketed_6 {o : q_H} (d : Nat) (x1 y0 : Int32) (g : Nat → Nat → Int32) : q_sem (d + 1) mX8_bracketed 6 [.ref 67, .int x1] [.int y0] (q_K o g) = (if y0 = 0 then some (some (.int 0), q_K o g) else (q_sem d mX8_next 0 [.ref 67] [] (q_K o g)).bind (fun r => q_sem (d + 1) mX8_bracketed 13 [.ref 67, .int x1] (r.1.toList ++ []) r.2)) := by
  refine (q_blk (Y := mX8_bracketed) (q_dcC dX8_bracketed_6 q_dcN) (show _ = some ((if q_cc .eq y0 0 = true then 18 else 9), [.ref 67, .int x1], []) from rfl)).trans ?_
  by_cases c1 : y0 = 0
  · rw [if_pos (show q_cc .eq y0 0 = true from decide_eq_true c1)]
    refine Eq.trans ?_ (if_pos c1).symm
    refine (q_blk (Y := mX8_bracketed) (q_dcC dX8_bracketed_18 q_dcN) (show _ = some (19, [.ref 67, .int x1], [.int 0]) from rfl)).trans ?_
    exact k_iret (Y := mX8_bracketed) dX8_bracketed_19 rfl
  · rw [if_neg (show ¬ q_cc .eq y0 0 = true from fun z => c1 (of_decide_eq_true z))]
    refine Eq.trans ?_ (if_neg c1).symm
    refine (q_blk (Y := mX8_bracketed) (q_dcC dX8_bracketed_9 q_dcN) (show _ = some (10, [.ref 67, .int x1], [.ref 67]) from rfl)).trans ?_
    exact K_calV (d := d) (Y := mX8_bracketed) (Z := mX8_next) (vs := []) (rest := []) (la := [.ref 67]) dX8_bracketed_10 rfl rfl rfl rfl ⟨by decide, rfl⟩ (Nat.le_of_ble_eq_true rfl) rfl (Nat.le_of_ble_eq_true rfl)
theorem B_X8_bracketed_13 {o : q_H} (d : Nat) (x1 y0 : Int32) (g : Nat → Nat → Int32) : q_sem (d) mX8_bracketed 13 [.ref 67, .int x1] [.int y0] (q_K o g) = (if y0 = 41 then some (some (.int 1), q_K o (q_up g 67 4 ((g 67 4) + 1))) else some (some (.int 0), q_K o g)) := by
  refine (q_blk (Y := mX8_bracketed) (q_dcC dX8_bracketed_13 (q_dcC dX8_bracketed_15 q_dcN)) (show _ = some ((if q_cc .eq y0 41 = true then 20 else 18), [.ref 67, .int x1], []) from rfl)).trans ?_
  by_cases c1 : y0 = 41
  · rw [if_pos (show q_cc .eq y0 41 = true from decide_eq_true c1)]
    refine Eq.trans ?_ (if_pos c1).symm
    refine (q_blk (Y := mX8_bracketed) (q_dcC dX8_bracketed_20 (q_dcC dX8_bracketed_21 q_dcN)) (show _ = some (22, [.ref 67, .int x1], [.ref 67, .ref 67]) from rfl)).trans ?_
    refine (k_geti (Y := mX8_bracketed) dX8_bracketed_22 rfl rfl ⟨by decide, rfl⟩ (by decide) rfl).trans ?_
    refine (q_blk (Y := mX8_bracketed) (q_dcC dX8_bracketed_25 (q_dcC dX8_bracketed_26 q_dcN)) (show _ = some (27, [.ref 67, .int x1], [.int ((g 67 4) + 1), .ref 67]) from rfl)).trans ?_
    refine (k_puti (Y := mX8_bracketed) dX8_bracketed_27 rfl ⟨by decide, rfl⟩ (by decide) rfl rfl rfl rfl).trans ?_
    refine (q_blk (Y := mX8_bracketed) (q_dcC dX8_bracketed_30 q_dcN) (show _ = some (31, [.ref 67, .int x1], [.int 1]) from rfl)).trans ?_
    exact k_iret (Y := mX8_bracketed) dX8_bracketed_31 rfl
  · rw [if_neg (show ¬ q_cc .eq y0 41 = true from fun z => c1 (of_decide_eq_true z))]
    refine Eq.trans ?_ (if_neg c1).symm
    refine (q_blk (Y := mX8_bracketed) (q_dcC dX8_bracketed_18 q_dcN) (show _ = some (19, [.ref 67, .int x1], [.int 0]) from rfl)).trans ?_
    exact k_iret (Y := mX8_bracketed) dX8_bracketed_19 rfl
theorem B_X8_number_0 {o : q_H} (d : Nat) (g : Nat → Nat → Int32) : q_sem (d) mX8_number 0 [.ref 67, .retAddr 0, .retAddr 0] [] (q_K o g) = q_sem (d) mX8_number 4 [.ref 67, .int 0, .int 0] [] (q_K o g) := by
  refine (q_blk (Y := mX8_number) (q_dcC dX8_number_0 (q_dcC dX8_number_1 (q_dcC dX8_number_2 (q_dcC dX8_number_3 q_dcN)))) (show _ = some (4, [.ref 67, .int 0, .int 0], []) from rfl)).trans ?_
  rfl
theorem B_X8_number_4 {o : q_H} (d : Nat) (x1 x2 : Int32) (g : Nat → Nat → Int32) : q_sem (d + 1) mX8_number 4 [.ref 67, .int x1, .int x2] [] (q_K o g) = (if 3 ≤ x2 then (q_sem d mX8_emit 0 [.ref 67, .int x1] [] (q_K o g)).bind (fun r => q_sem (d + 1) mX8_number 53 [.ref 67, .int x1, .int x2] (r.1.toList ++ []) r.2) else (q_sem d mX8_next 0 [.ref 67] [] (q_K o g)).bind (fun r => q_sem (d + 1) mX8_number 13 [.ref 67, .int x1, .int x2] (r.1.toList ++ []) r.2)) := by
  refine (q_blk (Y := mX8_number) (q_dcC dX8_number_4 (q_dcC dX8_number_5 (q_dcC dX8_number_6 q_dcN))) (show _ = some ((if q_cc .ge x2 3 = true then 48 else 9), [.ref 67, .int x1, .int x2], []) from rfl)).trans ?_
  by_cases c1 : 3 ≤ x2
  · rw [if_pos (show q_cc .ge x2 3 = true from decide_eq_true c1)]
    refine Eq.trans ?_ (if_pos c1).symm
    refine (q_blk (Y := mX8_number) (q_dcC dX8_number_48 (q_dcC dX8_number_49 q_dcN)) (show _ = some (50, [.ref 67, .int x1, .int x2], [.int x1, .ref 67]) from rfl)).trans ?_
    exact K_calV (d := d) (Y := mX8_number) (Z := mX8_emit) (vs := [.int x1]) (rest := []) (la := [.ref 67, .int x1]) dX8_number_50 rfl rfl rfl rfl ⟨by decide, rfl⟩ (Nat.le_of_ble_eq_true rfl) rfl (Nat.le_of_ble_eq_true rfl)
  · rw [if_neg (show ¬ q_cc .ge x2 3 = true from fun z => c1 (of_decide_eq_true z))]
    refine Eq.trans ?_ (if_neg c1).symm
    refine (q_blk (Y := mX8_number) (q_dcC dX8_number_9 q_dcN) (show _ = some (10, [.ref 67, .int x1, .int x2], [.ref 67]) from rfl)).trans ?_
    exact K_calV (d := d) (Y := mX8_number) (Z := mX8_next) (vs := []) (rest := []) (la := [.ref 67]) dX8_number_10 rfl rfl rfl rfl ⟨by decide, rfl⟩ (Nat.le_of_ble_eq_true rfl) rfl (Nat.le_of_ble_eq_true rfl)
theorem B_X8_number_53 {o : q_H} (d : Nat) (x1 x2 : Int32) (g : Nat → Nat → Int32) : q_sem (d) mX8_number 53 [.ref 67, .int x1, .int x2] [] (q_K o g) = some (some (.int 1), q_K o g) := by
  refine (q_blk (Y := mX8_number) (q_dcC dX8_number_53 q_dcN) (show _ = some (54, [.ref 67, .int x1, .int x2], [.int 1]) from rfl)).trans ?_
  exact k_iret (Y := mX8_number) dX8_number_54 rfl
theorem B_X8_number_13 {o : q_H} (d : Nat) (x1 x2 y0 : Int32) (g : Nat → Nat → Int32) : q_sem (d + 1) mX8_number 13 [.ref 67, .int x1, .int x2] [.int y0] (q_K o g) = (q_sem d mX8_isDigit 0 [.int y0] [] (q_K o g)).bind (fun r => q_sem (d + 1) mX8_number 16 [.ref 67, .int x1, .int x2] (r.1.toList ++ []) r.2) := by
  exact K_calS (d := d) (Y := mX8_number) (Z := mX8_isDigit) (vs := [.int y0]) (rest := []) (la := [.int y0]) dX8_number_13 rfl rfl rfl rfl (Nat.le_of_ble_eq_true rfl) rfl (Nat.le_of_ble_eq_true rfl)
theorem B_X8_number_16 {o : q_H} (d : Nat) (x1 x2 y0 : Int32) (g : Nat → Nat → Int32) : q_sem (d + 1) mX8_number 16 [.ref 67, .int x1, .int x2] [.int y0] (q_K o g) = (if y0 = 0 then (q_sem d mX8_emit 0 [.ref 67, .int x1] [] (q_K o g)).bind (fun r => q_sem (d + 1) mX8_number 53 [.ref 67, .int x1, .int x2] (r.1.toList ++ []) r.2) else (q_sem d mX8_next 0 [.ref 67] [] (q_K o g)).bind (fun r => q_sem (d + 1) mX8_number 27 [.ref 67, .int x1, .int x2] (r.1.toList ++ [.int (10 * x1)]) r.2)) := by
  refine (q_blk (Y := mX8_number) (q_dcC dX8_number_16 q_dcN) (show _ = some ((if q_cc .eq y0 0 = true then 48 else 19), [.ref 67, .int x1, .int x2], []) from rfl)).trans ?_
  by_cases c1 : y0 = 0
  · rw [if_pos (show q_cc .eq y0 0 = true from decide_eq_true c1)]
    refine Eq.trans ?_ (if_pos c1).symm
    refine (q_blk (Y := mX8_number) (q_dcC dX8_number_48 (q_dcC dX8_number_49 q_dcN)) (show _ = some (50, [.ref 67, .int x1, .int x2], [.int x1, .ref 67]) from rfl)).trans ?_
    exact K_calV (d := d) (Y := mX8_number) (Z := mX8_emit) (vs := [.int x1]) (rest := []) (la := [.ref 67, .int x1]) dX8_number_50 rfl rfl rfl rfl ⟨by decide, rfl⟩ (Nat.le_of_ble_eq_true rfl) rfl (Nat.le_of_ble_eq_true rfl)
  · rw [if_neg (show ¬ q_cc .eq y0 0 = true from fun z => c1 (of_decide_eq_true z))]
    refine Eq.trans ?_ (if_neg c1).symm
    refine (q_blk (Y := mX8_number) (q_dcC dX8_number_19 (q_dcC dX8_number_21 (q_dcC dX8_number_22 (q_dcC dX8_number_23 q_dcN)))) (show _ = some (24, [.ref 67, .int x1, .int x2], [.ref 67, .int (10 * x1)]) from rfl)).trans ?_
    exact K_calV (d := d) (Y := mX8_number) (Z := mX8_next) (vs := []) (rest := [.int (10 * x1)]) (la := [.ref 67]) dX8_number_24 rfl rfl rfl rfl ⟨by decide, rfl⟩ (Nat.le_of_ble_eq_true rfl) rfl (Nat.le_of_ble_eq_true rfl)
theorem B_X8_number_27 {o : q_H} (d : Nat) (x1 x2 y0 y1 : Int32) (g : Nat → Nat → Int32) : q_sem (d) mX8_number 27 [.ref 67, .int x1, .int x2] [.int y0, .int y1] (q_K o g) = q_sem (d) mX8_number 4 [.ref 67, .int ((y1 + y0) - 48), .int (x2 + 1)] [] (q_K o (q_up g 67 4 ((g 67 4) + 1))) := by
  refine (q_blk (Y := mX8_number) (q_dcC dX8_number_27 (q_dcC dX8_number_28 (q_dcC dX8_number_30 (q_dcC dX8_number_31 (q_dcC dX8_number_32 (q_dcC dX8_number_33 q_dcN)))))) (show _ = some (34, [.ref 67, .int ((y1 + y0) - 48), .int x2], [.ref 67, .ref 67]) from rfl)).trans ?_
  refine (k_geti (Y := mX8_number) dX8_number_34 rfl rfl ⟨by decide, rfl⟩ (by decide) rfl).trans ?_
  refine (q_blk (Y := mX8_number) (q_dcC dX8_number_37 (q_dcC dX8_number_38 q_dcN)) (show _ = some (39, [.ref 67, .int ((y1 + y0) - 48), .int x2], [.int ((g 67 4) + 1), .ref 67]) from rfl)).trans ?_
  refine (k_puti (Y := mX8_number) dX8_number_39 rfl ⟨by decide, rfl⟩ (by decide) rfl rfl rfl rfl).trans ?_
  refine (q_blk (Y := mX8_number) (q_dcC dX8_number_42 (q_dcC dX8_number_45 q_dcN)) (show _ = some (4, [.ref 67, .int ((y1 + y0) - 48), .int (x2 + 1)], []) from rfl)).trans ?_
  rfl
theorem B_X8_next_0 {o : q_H} (d : Nat) (g : Nat → Nat → Int32) : q_sem (d + 1) mX8_next 0 [.ref 67] [] (q_K o g) = (q_sem d mX7_has 0 [.ref 19, .int (g 67 4)] [] (q_K o g)).bind (fun r => q_sem (d + 1) mX8_next 11 [.ref 67] (r.1.toList ++ []) r.2) := by
  refine (q_blk (Y := mX8_next) (q_dcC dX8_next_0 q_dcN) (show _ = some (1, [.ref 67], [.ref 67]) from rfl)).trans ?_
  refine (k_getr (Y := mX8_next) dX8_next_1 rfl rfl ⟨by decide, rfl⟩ (by decide) rfl).trans ?_
  refine (q_blk (Y := mX8_next) (q_dcC dX8_next_4 q_dcN) (show _ = some (5, [.ref 67], [.ref 67, .ref 19]) from rfl)).trans ?_
  refine (k_geti (Y := mX8_next) dX8_next_5 rfl rfl ⟨by decide, rfl⟩ (by decide) rfl).trans ?_
  exact K_calV (d := d) (Y := mX8_next) (Z := mX7_has) (vs := [.int (g 67 4)]) (rest := []) (la := [.ref 19, .int (g 67 4)]) dX8_next_8 rfl rfl rfl rfl ⟨by decide, rfl⟩ (Nat.le_of_ble_eq_true rfl) rfl (Nat.le_of_ble_eq_true rfl)
theorem B_X8_next_11 {o : q_H} (d : Nat) (y0 : Int32) (g : Nat → Nat → Int32) : q_sem (d + 1) mX8_next 11 [.ref 67] [.int y0] (q_K o g) = (if y0 = 0 then some (some (.int (-1)), q_K o g) else (q_sem d mX7_get 0 [.ref 19, .int (g 67 4), .int 0] [] (q_K o g)).bind (fun r => q_sem (d + 1) mX8_next 26 [.ref 67] (r.1.toList ++ []) r.2)) := by
  refine (q_blk (Y := mX8_next) (q_dcC dX8_next_11 q_dcN) (show _ = some ((if q_cc .eq y0 0 = true then 29 else 14), [.ref 67], []) from rfl)).trans ?_
  by_cases c1 : y0 = 0
  · rw [if_pos (show q_cc .eq y0 0 = true from decide_eq_true c1)]
    refine Eq.trans ?_ (if_pos c1).symm
    refine (q_blk (Y := mX8_next) (q_dcC dX8_next_29 q_dcN) (show _ = some (30, [.ref 67], [.int (-1)]) from rfl)).trans ?_
    exact k_iret (Y := mX8_next) dX8_next_30 rfl
  · rw [if_neg (show ¬ q_cc .eq y0 0 = true from fun z => c1 (of_decide_eq_true z))]
    refine Eq.trans ?_ (if_neg c1).symm
    refine (q_blk (Y := mX8_next) (q_dcC dX8_next_14 q_dcN) (show _ = some (15, [.ref 67], [.ref 67]) from rfl)).trans ?_
    refine (k_getr (Y := mX8_next) dX8_next_15 rfl rfl ⟨by decide, rfl⟩ (by decide) rfl).trans ?_
    refine (q_blk (Y := mX8_next) (q_dcC dX8_next_18 q_dcN) (show _ = some (19, [.ref 67], [.ref 67, .ref 19]) from rfl)).trans ?_
    refine (k_geti (Y := mX8_next) dX8_next_19 rfl rfl ⟨by decide, rfl⟩ (by decide) rfl).trans ?_
    refine (q_blk (Y := mX8_next) (q_dcC dX8_next_22 q_dcN) (show _ = some (23, [.ref 67], [.int 0, .int (g 67 4), .ref 19]) from rfl)).trans ?_
    exact K_calV (d := d) (Y := mX8_next) (Z := mX7_get) (vs := [.int (g 67 4), .int 0]) (rest := []) (la := [.ref 19, .int (g 67 4), .int 0]) dX8_next_23 rfl rfl rfl rfl ⟨by decide, rfl⟩ (Nat.le_of_ble_eq_true rfl) rfl (Nat.le_of_ble_eq_true rfl)
theorem B_X8_next_26 {o : q_H} (d : Nat) (y0 : Int32) (g : Nat → Nat → Int32) : q_sem (d) mX8_next 26 [.ref 67] [.int y0] (q_K o g) = some (some (.int y0), q_K o g) := by
  refine (q_blk (Y := mX8_next) (q_dcC dX8_next_26 q_dcN) (show _ = some (30, [.ref 67], [.int y0]) from rfl)).trans ?_
  exact k_iret (Y := mX8_next) dX8_next_30 rfl
theorem B_X8_isDigit_0 {o : q_H} (d : Nat) (x0 : Int32) (g : Nat → Nat → Int32) : q_sem (d + 1) mX8_isDigit 0 [.int x0] [] (q_K o g) = (q_sem d mX11_within 0 [.int x0, .int 48, .int 57] [] (q_K o g)).bind (fun r => q_sem (d + 1) mX8_isDigit 8 [.int x0] (r.1.toList ++ []) r.2) := by
  refine (q_blk (Y := mX8_isDigit) (q_dcC dX8_isDigit_0 (q_dcC dX8_isDigit_1 (q_dcC dX8_isDigit_3 q_dcN))) (show _ = some (5, [.int x0], [.int 57, .int 48, .int x0]) from rfl)).trans ?_
  exact K_calN (d := d) (Y := mX8_isDigit) (Z := mX11_within) (vs := [.int x0, .int 48, .int 57]) (rest := []) (la := [.int x0, .int 48, .int 57]) dX8_isDigit_5 rfl rfl rfl rfl rfl (Nat.le_of_ble_eq_true rfl) rfl (Nat.le_of_ble_eq_true rfl)
theorem B_X8_isDigit_8 {o : q_H} (d : Nat) (x0 y0 : Int32) (g : Nat → Nat → Int32) : q_sem (d) mX8_isDigit 8 [.int x0] [.int y0] (q_K o g) = (q_rB y0 (q_K o g)) := by
  exact k_iretB (Y := mX8_isDigit) dX8_isDigit_8 rfl
theorem B_X8_nameOf_0 {o : q_H} (d : Nat) (x1 : Int32) (g : Nat → Nat → Int32) : q_sem (d + 1) mX8_nameOf 0 [.ref 67, .int x1, .retAddr 0] [] (q_K o g) = (if 0 ≤ x1 then (if (g 67 3) = 0 then (q_sem d mJ0_indexOf_0f7a4 0 [.ref (q_M + 7), .int ((x1 : Int32).toUInt32 % 65536).toInt32] [] (q_K o g)).bind (fun r => q_sem (d + 1) mX8_nameOf 40 [.ref 67, .int x1, .ref (q_M + 7)] (r.1.toList ++ []) r.2) else (if (g 67 3) = 1 then (q_sem d mJ0_indexOf_0f7a4 0 [.ref (q_M + 8), .int ((x1 : Int32).toUInt32 % 65536).toInt32] [] (q_K o g)).bind (fun r => q_sem (d + 1) mX8_nameOf 40 [.ref 67, .int x1, .ref (q_M + 8)] (r.1.toList ++ []) r.2) else (q_sem d mJ0_indexOf_0f7a4 0 [.ref (q_M + 9), .int ((x1 : Int32).toUInt32 % 65536).toInt32] [] (q_K o g)).bind (fun r => q_sem (d + 1) mX8_nameOf 40 [.ref 67, .int x1, .ref (q_M + 9)] (r.1.toList ++ []) r.2))) else some (some (.int (-1)), q_K o g)) := by
  refine (q_blk (Y := mX8_nameOf) (q_dcC dX8_nameOf_0 (q_dcC dX8_nameOf_1 q_dcN)) (show _ = some ((if q_cc .ge x1 0 = true then 6 else 4), [.ref 67, .int x1, .retAddr 0], []) from rfl)).trans ?_
  by_cases c1 : 0 ≤ x1
  · rw [if_pos (show q_cc .ge x1 0 = true from decide_eq_true c1)]
    refine Eq.trans ?_ (if_pos c1).symm
    refine (q_blk (Y := mX8_nameOf) (q_dcC dX8_nameOf_6 q_dcN) (show _ = some (7, [.ref 67, .int x1, .retAddr 0], [.ref 67]) from rfl)).trans ?_
    refine (k_geti (Y := mX8_nameOf) dX8_nameOf_7 rfl rfl ⟨by decide, rfl⟩ (by decide) rfl).trans ?_
    refine (q_blk (Y := mX8_nameOf) (q_dcC dX8_nameOf_10 q_dcN) (show _ = some ((if q_cc .ne (g 67 3) 0 = true then 18 else 13), [.ref 67, .int x1, .retAddr 0], []) from rfl)).trans ?_
    by_cases c2 : (g 67 3) = 0
    · rw [if_neg (show ¬ q_cc .ne (g 67 3) 0 = true from fun z => (of_decide_eq_true z : ¬ (g 67 3) = 0) c2)]
      refine Eq.trans ?_ (if_pos c2).symm
      refine (k_ldcs (Y := mX8_nameOf) (j := 0) dX8_nameOf_13 rfl rfl).trans ?_
      refine (q_blk (Y := mX8_nameOf) (q_dcC dX8_nameOf_15 q_dcN) (show _ = some (33, [.ref 67, .int x1, .retAddr 0], [.ref (q_M + 7)]) from rfl)).trans ?_
      refine (q_blk (Y := mX8_nameOf) (q_dcC dX8_nameOf_33 (q_dcC dX8_nameOf_34 (q_dcC dX8_nameOf_35 (q_dcC dX8_nameOf_36 q_dcN)))) (show _ = some (37, [.ref 67, .int x1, .ref (q_M + 7)], [.int ((x1 : Int32).toUInt32 % 65536).toInt32, .ref (q_M + 7)]) from rfl)).trans ?_
      exact K_calW (d := d) (Y := mX8_nameOf) (Z := mJ0_indexOf_0f7a4) (vs := [.int ((x1 : Int32).toUInt32 % 65536).toInt32]) (rest := []) (la := [.ref (q_M + 7), .int ((x1 : Int32).toUInt32 % 65536).toInt32]) dX8_nameOf_37 rfl rfl rfl rfl rfl (by decide) (by decide) (Nat.le_of_ble_eq_true rfl) rfl (Nat.le_of_ble_eq_true rfl)
    · rw [if_pos (show q_cc .ne (g 67 3) 0 = true from decide_eq_true c2)]
      refine Eq.trans ?_ (if_neg c2).symm
      refine (q_blk (Y := mX8_nameOf) (q_dcC dX8_nameOf_18 q_dcN) (show _ = some (19, [.ref 67, .int x1, .retAddr 0], [.ref 67]) from rfl)).trans ?_
      refine (k_geti (Y := mX8_nameOf) dX8_nameOf_19 rfl rfl ⟨by decide, rfl⟩ (by decide) rfl).trans ?_
      refine (q_blk (Y := mX8_nameOf) (q_dcC dX8_nameOf_22 (q_dcC dX8_nameOf_23 q_dcN)) (show _ = some ((if q_cc .ne (g 67 3) 1 = true then 31 else 26), [.ref 67, .int x1, .retAddr 0], []) from rfl)).trans ?_
      by_cases c3 : (g 67 3) = 1
      · rw [if_neg (show ¬ q_cc .ne (g 67 3) 1 = true from fun z => (of_decide_eq_true z : ¬ (g 67 3) = 1) c3)]
        refine Eq.trans ?_ (if_pos c3).symm
        refine (k_ldcs (Y := mX8_nameOf) (j := 1) dX8_nameOf_26 rfl rfl).trans ?_
        refine (q_blk (Y := mX8_nameOf) (q_dcC dX8_nameOf_28 q_dcN) (show _ = some (33, [.ref 67, .int x1, .retAddr 0], [.ref (q_M + 8)]) from rfl)).trans ?_
        refine (q_blk (Y := mX8_nameOf) (q_dcC dX8_nameOf_33 (q_dcC dX8_nameOf_34 (q_dcC dX8_nameOf_35 (q_dcC dX8_nameOf_36 q_dcN)))) (show _ = some (37, [.ref 67, .int x1, .ref (q_M + 8)], [.int ((x1 : Int32).toUInt32 % 65536).toInt32, .ref (q_M + 8)]) from rfl)).trans ?_
        exact K_calW (d := d) (Y := mX8_nameOf) (Z := mJ0_indexOf_0f7a4) (vs := [.int ((x1 : Int32).toUInt32 % 65536).toInt32]) (rest := []) (la := [.ref (q_M + 8), .int ((x1 : Int32).toUInt32 % 65536).toInt32]) dX8_nameOf_37 rfl rfl rfl rfl rfl (by decide) (by decide) (Nat.le_of_ble_eq_true rfl) rfl (Nat.le_of_ble_eq_true rfl)
      · rw [if_pos (show q_cc .ne (g 67 3) 1 = true from decide_eq_true c3)]
        refine Eq.trans ?_ (if_neg c3).symm
        refine (k_ldcs (Y := mX8_nameOf) (j := 2) dX8_nameOf_31 rfl rfl).trans ?_
        refine (q_blk (Y := mX8_nameOf) (q_dcC dX8_nameOf_33 (q_dcC dX8_nameOf_34 (q_dcC dX8_nameOf_35 (q_dcC dX8_nameOf_36 q_dcN)))) (show _ = some (37, [.ref 67, .int x1, .ref (q_M + 9)], [.int ((x1 : Int32).toUInt32 % 65536).toInt32, .ref (q_M + 9)]) from rfl)).trans ?_
        exact K_calW (d := d) (Y := mX8_nameOf) (Z := mJ0_indexOf_0f7a4) (vs := [.int ((x1 : Int32).toUInt32 % 65536).toInt32]) (rest := []) (la := [.ref (q_M + 9), .int ((x1 : Int32).toUInt32 % 65536).toInt32]) dX8_nameOf_37 rfl rfl rfl rfl rfl (by decide) (by decide) (Nat.le_of_ble_eq_true rfl) rfl (Nat.le_of_ble_eq_true rfl)
  · rw [if_neg (show ¬ q_cc .ge x1 0 = true from fun z => c1 (of_decide_eq_true z))]
    refine Eq.trans ?_ (if_neg c1).symm
    refine (q_blk (Y := mX8_nameOf) (q_dcC dX8_nameOf_4 q_dcN) (show _ = some (5, [.ref 67, .int x1, .retAddr 0], [.int (-1)]) from rfl)).trans ?_
    exact k_iret (Y := mX8_nameOf) dX8_nameOf_5 rfl
theorem B_X8_nameOf_40 {o : q_H} (d : Nat) (x1 y0 : Int32) (g : Nat → Nat → Int32) : q_sem (d) mX8_nameOf 40 [.ref 67, .int x1, .ref (q_M + 7)] [.int y0] (q_K o g) = some (some (.int y0), q_K o g) := by
  exact k_iret (Y := mX8_nameOf) dX8_nameOf_40 rfl
theorem B_X8_nameOf_40a {o : q_H} (d : Nat) (x1 y0 : Int32) (g : Nat → Nat → Int32) : q_sem (d) mX8_nameOf 40 [.ref 67, .int x1, .ref (q_M + 8)] [.int y0] (q_K o g) = some (some (.int y0), q_K o g) := by
  exact k_iret (Y := mX8_nameOf) dX8_nameOf_40 rfl
theorem B_X8_nameOf_40b {o : q_H} (d : Nat) (x1 y0 : Int32) (g : Nat → Nat → Int32) : q_sem (d) mX8_nameOf 40 [.ref 67, .int x1, .ref (q_M + 9)] [.int y0] (q_K o g) = some (some (.int y0), q_K o g) := by
  exact k_iret (Y := mX8_nameOf) dX8_nameOf_40 rfl
theorem B_X8_emit_0 {o : q_H} (d : Nat) (x1 : Int32) (g : Nat → Nat → Int32) : q_sem (d) mX8_emit 0 [.ref 67, .int x1] [] (q_K o g) = (if (g 67 2) < 0 then some (none, q_K o g) else (if 50 ≤ (g 67 2) then some (none, q_K o g) else (q_rg (g 67 2) 50 (fun j3 => some (none, q_K o (q_up (q_up g 68 j3 x1) 67 2 (((q_up g 68 j3 x1) 67 2) + 1))))))) := by
  refine (q_blk (Y := mX8_emit) (q_dcC dX8_emit_0 q_dcN) (show _ = some (1, [.ref 67, .int x1], [.ref 67]) from rfl)).trans ?_
  refine (k_geti (Y := mX8_emit) dX8_emit_1 rfl rfl ⟨by decide, rfl⟩ (by decide) rfl).trans ?_
  refine (q_blk (Y := mX8_emit) (q_dcC dX8_emit_4 q_dcN) (show _ = some ((if q_cc .lt (g 67 2) 0 = true then 39 else 7), [.ref 67, .int x1], []) from rfl)).trans ?_
  by_cases c1 : (g 67 2) < 0
  · rw [if_pos (show q_cc .lt (g 67 2) 0 = true from decide_eq_true c1)]
    refine Eq.trans ?_ (if_pos c1).symm
    exact k_vret (Y := mX8_emit) dX8_emit_39 rfl
  · rw [if_neg (show ¬ q_cc .lt (g 67 2) 0 = true from fun z => c1 (of_decide_eq_true z))]
    refine Eq.trans ?_ (if_neg c1).symm
    refine (q_blk (Y := mX8_emit) (q_dcC dX8_emit_7 q_dcN) (show _ = some (8, [.ref 67, .int x1], [.ref 67]) from rfl)).trans ?_
    refine (k_geti (Y := mX8_emit) dX8_emit_8 rfl rfl ⟨by decide, rfl⟩ (by decide) rfl).trans ?_
    refine (q_blk (Y := mX8_emit) (q_dcC dX8_emit_11 q_dcN) (show _ = some (12, [.ref 67, .int x1], [.ref 67, .int (g 67 2)]) from rfl)).trans ?_
    refine (k_getr (Y := mX8_emit) dX8_emit_12 rfl rfl ⟨by decide, rfl⟩ (by decide) rfl).trans ?_
    refine (k_alen (Y := mX8_emit) dX8_emit_15 ⟨by decide, rfl, rfl⟩).trans ?_
    refine (q_blk (Y := mX8_emit) (q_dcC dX8_emit_16 q_dcN) (show _ = some ((if q_cc .ge (g 67 2) 50 = true then 39 else 19), [.ref 67, .int x1], []) from rfl)).trans ?_
    by_cases c2 : 50 ≤ (g 67 2)
    · rw [if_pos (show q_cc .ge (g 67 2) 50 = true from decide_eq_true c2)]
      refine Eq.trans ?_ (if_pos c2).symm
      exact k_vret (Y := mX8_emit) dX8_emit_39 rfl
    · rw [if_neg (show ¬ q_cc .ge (g 67 2) 50 = true from fun z => c2 (of_decide_eq_true z))]
      refine Eq.trans ?_ (if_neg c2).symm
      refine (q_blk (Y := mX8_emit) (q_dcC dX8_emit_19 q_dcN) (show _ = some (20, [.ref 67, .int x1], [.ref 67]) from rfl)).trans ?_
      refine (k_getr (Y := mX8_emit) dX8_emit_20 rfl rfl ⟨by decide, rfl⟩ (by decide) rfl).trans ?_
      refine (q_blk (Y := mX8_emit) (q_dcC dX8_emit_23 q_dcN) (show _ = some (24, [.ref 67, .int x1], [.ref 67, .ref 68]) from rfl)).trans ?_
      refine (k_geti (Y := mX8_emit) dX8_emit_24 rfl rfl ⟨by decide, rfl⟩ (by decide) rfl).trans ?_
      refine (q_blk (Y := mX8_emit) (q_dcC dX8_emit_27 q_dcN) (show _ = some (28, [.ref 67, .int x1], [.int x1, .int (g 67 2), .ref 68]) from rfl)).trans ?_
      by_cases c3 : q_inn (g 67 2) 50
      rotate_left
      · refine Eq.trans ?_ (q_rgF c3).symm
        exact K_iastX (Y := mX8_emit) dX8_emit_28 ⟨by decide, rfl, rfl⟩ c3
      refine Eq.trans ?_ (q_rgT c3).symm
      refine (K_iast (Y := mX8_emit) dX8_emit_28 ⟨by decide, rfl, rfl⟩ c3).trans ?_
      refine (q_blk (Y := mX8_emit) (q_dcC dX8_emit_29 (q_dcC dX8_emit_30 q_dcN)) (show _ = some (31, [.ref 67, .int x1], [.ref 67, .ref 67]) from rfl)).trans ?_
      refine (k_geti (Y := mX8_emit) dX8_emit_31 rfl rfl ⟨by decide, rfl⟩ (by decide) rfl).trans ?_
      refine (q_blk (Y := mX8_emit) (q_dcC dX8_emit_34 (q_dcC dX8_emit_35 q_dcN)) (show _ = some (36, [.ref 67, .int x1], [.int (((q_up g 68 (g 67 2).toNatClampNeg x1) 67 2) + 1), .ref 67]) from rfl)).trans ?_
      refine (k_puti (Y := mX8_emit) dX8_emit_36 rfl ⟨by decide, rfl⟩ (by decide) rfl rfl rfl rfl).trans ?_
      exact k_vret (Y := mX8_emit) dX8_emit_39 rfl
theorem B_X9_begin_0 {o : q_H} (d : Nat) (x1 x2 x3 : Int32) (g : Nat → Nat → Int32) : q_sem (d + 1) mX9_begin 0 [.ref 94, .int x1, .int x2, .int x3] [] (q_K o g) = (q_sem d mX7_clear 0 [.ref 95] [] (q_K o g)).bind (fun r => q_sem (d + 1) mX9_begin 7 [.ref 94, .int x1, .int x2, .int x3] (r.1.toList ++ []) r.2) := by
  refine (q_blk (Y := mX9_begin) (q_dcC dX9_begin_0 q_dcN) (show _ = some (1, [.ref 94, .int x1, .int x2, .int x3], [.ref 94]) from rfl)).trans ?_
  refine (k_getr (Y := mX9_begin) dX9_begin_1 rfl rfl ⟨by decide, rfl⟩ (by decide) rfl).trans ?_
  exact K_calV (d := d) (Y := mX9_begin) (Z := mX7_clear) (vs := []) (rest := []) (la := [.ref 95]) dX9_begin_4 rfl rfl rfl rfl ⟨by decide, rfl⟩ (Nat.le_of_ble_eq_true rfl) rfl (Nat.le_of_ble_eq_true rfl)
theorem B_X9_begin_7 {o : q_H} (d : Nat) (x1 x2 x3 : Int32) (g : Nat → Nat → Int32) : q_sem (d) mX9_begin 7 [.ref 94, .int x1, .int x2, .int x3] [] (q_K o g) = some (none, q_K o (q_up (q_up (q_up g 94 1 x1) 94 2 x2) 94 3 x3)) := by
  refine (q_blk (Y := mX9_begin) (q_dcC dX9_begin_7 (q_dcC dX9_begin_8 q_dcN)) (show _ = some (9, [.ref 94, .int x1, .int x2, .int x3], [.int x1, .ref 94]) from rfl)).trans ?_
  refine (k_puti (Y := mX9_begin) dX9_begin_9 rfl ⟨by decide, rfl⟩ (by decide) rfl rfl rfl rfl).trans ?_
  refine (q_blk (Y := mX9_begin) (q_dcC dX9_begin_12 (q_dcC dX9_begin_13 q_dcN)) (show _ = some (14, [.ref 94, .int x1, .int x2, .int x3], [.int x2, .ref 94]) from rfl)).trans ?_
  refine (k_puti (Y := mX9_begin) dX9_begin_14 rfl ⟨by decide, rfl⟩ (by decide) rfl rfl rfl rfl).trans ?_
  refine (q_blk (Y := mX9_begin) (q_dcC dX9_begin_17 (q_dcC dX9_begin_18 q_dcN)) (show _ = some (19, [.ref 94, .int x1, .int x2, .int x3], [.int x3, .ref 94]) from rfl)).trans ?_
  refine (k_puti (Y := mX9_begin) dX9_begin_19 rfl ⟨by decide, rfl⟩ (by decide) rfl rfl rfl rfl).trans ?_
  exact k_vret (Y := mX9_begin) dX9_begin_22 rfl
theorem B_X9_utter_0 {o : q_H} (d : Nat) (x1 x2 : Int32) (g : Nat → Nat → Int32) : q_sem (d + 1) mX9_utter 0 [.ref 94, .int x1, .int x2] [] (q_K o g) = (q_sem d mX9_own 0 [.ref 94, .int x1, .int x2, .int 0] [] (q_K o g)).bind (fun r => q_sem (d + 1) mX9_utter 7 [.ref 94, .int x1, .int x2] (r.1.toList ++ []) r.2) := by
  refine (q_blk (Y := mX9_utter) (q_dcC dX9_utter_0 (q_dcC dX9_utter_1 (q_dcC dX9_utter_2 (q_dcC dX9_utter_3 q_dcN)))) (show _ = some (4, [.ref 94, .int x1, .int x2], [.int 0, .int x2, .int x1, .ref 94]) from rfl)).trans ?_
  exact K_calV (d := d) (Y := mX9_utter) (Z := mX9_own) (vs := [.int x1, .int x2, .int 0]) (rest := []) (la := [.ref 94, .int x1, .int x2, .int 0]) dX9_utter_4 rfl rfl rfl rfl ⟨by decide, rfl⟩ (Nat.le_of_ble_eq_true rfl) rfl (Nat.le_of_ble_eq_true rfl)
theorem B_X9_utter_7 {o : q_H} (d : Nat) (x1 x2 y0 : Int32) (g : Nat → Nat → Int32) : q_sem (d) mX9_utter 7 [.ref 94, .int x1, .int x2] [.int y0] (q_K o g) = some (some (.int y0), q_K o g) := by
  exact k_iret (Y := mX9_utter) dX9_utter_7 rfl
theorem B_X9_own_0 {o : q_H} (d : Nat) (x1 x2 x3 : Int32) (g : Nat → Nat → Int32) : q_sem (d + 1) mX9_own 0 [.ref 94, .int x1, .int x2, .int x3] [] (q_K o g) = (q_sem d mX9_from 0 [.ref 94, .int (g 94 1), .int x1, .int x2, .int (x3 + 1), .retAddr 0] [] (q_K o g)).bind (fun r => q_sem (d + 1) mX9_own 13 [.ref 94, .int x1, .int x2, .int x3] (r.1.toList ++ []) r.2) := by
  refine (q_blk (Y := mX9_own) (q_dcC dX9_own_0 (q_dcC dX9_own_1 q_dcN)) (show _ = some (2, [.ref 94, .int x1, .int x2, .int x3], [.ref 94, .ref 94]) from rfl)).trans ?_
  refine (k_geti (Y := mX9_own) dX9_own_2 rfl rfl ⟨by decide, rfl⟩ (by decide) rfl).trans ?_
  refine (q_blk (Y := mX9_own) (q_dcC dX9_own_5 (q_dcC dX9_own_6 (q_dcC dX9_own_7 (q_dcC dX9_own_8 (q_dcC dX9_own_9 q_dcN))))) (show _ = some (10, [.ref 94, .int x1, .int x2, .int x3], [.int (x3 + 1), .int x2, .int x1, .int (g 94 1), .ref 94]) from rfl)).trans ?_
  exact K_calV (d := d) (Y := mX9_own) (Z := mX9_from) (vs := [.int (g 94 1), .int x1, .int x2, .int (x3 + 1)]) (rest := []) (la := [.ref 94, .int (g 94 1), .int x1, .int x2, .int (x3 + 1), .retAddr 0]) dX9_own_10 rfl rfl rfl rfl ⟨by decide, rfl⟩ (Nat.le_of_ble_eq_true rfl) rfl (Nat.le_of_ble_eq_true rfl)
theorem B_X9_own_13 {o : q_H} (d : Nat) (x1 x2 x3 y0 : Int32) (g : Nat → Nat → Int32) : q_sem (d) mX9_own 13 [.ref 94, .int x1, .int x2, .int x3] [.int y0] (q_K o g) = some (some (.int y0), q_K o g) := by
  exact k_iret (Y := mX9_own) dX9_own_13 rfl
theorem B_X9_from_0 {o : q_H} (d : Nat) (x1 x2 x3 x4 : Int32) (g : Nat → Nat → Int32) : q_sem (d + 1) mX9_from 0 [.ref 94, .int x1, .int x2, .int x3, .int x4, .retAddr 0] [] (q_K o g) = (q_sem d mX9_bodyFrom 0 [.int x1, .int x2, .retAddr 0, .retAddr 0, .retAddr 0] [] (q_K o g)).bind (fun r => q_sem (d + 1) mX9_from 5 [.ref 94, .int x1, .int x2, .int x3, .int x4, .retAddr 0] (r.1.toList ++ []) r.2) := by
  refine (q_blk (Y := mX9_from) (q_dcC dX9_from_0 (q_dcC dX9_from_1 q_dcN)) (show _ = some (2, [.ref 94, .int x1, .int x2, .int x3, .int x4, .retAddr 0], [.int x2, .int x1]) from rfl)).trans ?_
  exact K_calS (d := d) (Y := mX9_from) (Z := mX9_bodyFrom) (vs := [.int x1, .int x2]) (rest := []) (la := [.int x1, .int x2, .retAddr 0, .retAddr 0, .retAddr 0]) dX9_from_2 rfl rfl rfl rfl (Nat.le_of_ble_eq_true rfl) rfl (Nat.le_of_ble_eq_true rfl)
theorem B_X9_from_5 {o : q_H} (d : Nat) (x1 x2 x3 x4 y0 : Int32) (g : Nat → Nat → Int32) : q_sem (d + 1) mX9_from 5 [.ref 94, .int x1, .int x2, .int x3, .int x4, .retAddr 0] [.int y0] (q_K o g) = (if 40 < x4 then some (some (.int 0), q_K o g) else (if y0 = 0 then some (some (.int 0), q_K o g) else (q_sem d mX7_add 0 [.ref 95, .int y0, .retAddr 0] [] (q_K o g)).bind (fun r => q_sem (d + 1) mX9_from 30 [.ref 94, .int x1, .int x2, .int x3, .int x4, .int y0] (r.1.toList ++ []) r.2))) := by
  refine (q_blk (Y := mX9_from) (q_dcC dX9_from_5 (q_dcC dX9_from_7 (q_dcC dX9_from_9 (q_dcC dX9_from_11 q_dcN)))) (show _ = some ((if q_cc .gt x4 40 = true then 19 else 14), [.ref 94, .int x1, .int x2, .int x3, .int x4, .int y0], []) from rfl)).trans ?_
  by_cases c1 : 40 < x4
  · rw [if_pos (show q_cc .gt x4 40 = true from decide_eq_true c1)]
    refine Eq.trans ?_ (if_pos c1).symm
    refine (q_blk (Y := mX9_from) (q_dcC dX9_from_19 q_dcN) (show _ = some (20, [.ref 94, .int x1, .int x2, .int x3, .int x4, .int y0], [.int 0]) from rfl)).trans ?_
    exact k_iret (Y := mX9_from) dX9_from_20 rfl
  · rw [if_neg (show ¬ q_cc .gt x4 40 = true from fun z => c1 (of_decide_eq_true z))]
    refine Eq.trans ?_ (if_neg c1).symm
    refine (q_blk (Y := mX9_from) (q_dcC dX9_from_14 (q_dcC dX9_from_16 q_dcN)) (show _ = some ((if q_cc .ne y0 0 = true then 21 else 19), [.ref 94, .int x1, .int x2, .int x3, .int x4, .int y0], []) from rfl)).trans ?_
    by_cases c2 : y0 = 0
    · rw [if_neg (show ¬ q_cc .ne y0 0 = true from fun z => (of_decide_eq_true z : ¬ y0 = 0) c2)]
      refine Eq.trans ?_ (if_pos c2).symm
      refine (q_blk (Y := mX9_from) (q_dcC dX9_from_19 q_dcN) (show _ = some (20, [.ref 94, .int x1, .int x2, .int x3, .int x4, .int y0], [.int 0]) from rfl)).trans ?_
      exact k_iret (Y := mX9_from) dX9_from_20 rfl
    · rw [if_pos (show q_cc .ne y0 0 = true from decide_eq_true c2)]
      refine Eq.trans ?_ (if_neg c2).symm
      refine (q_blk (Y := mX9_from) (q_dcC dX9_from_21 q_dcN) (show _ = some (22, [.ref 94, .int x1, .int x2, .int x3, .int x4, .int y0], [.ref 94]) from rfl)).trans ?_
      refine (k_getr (Y := mX9_from) dX9_from_22 rfl rfl ⟨by decide, rfl⟩ (by decide) rfl).trans ?_
      refine (q_blk (Y := mX9_from) (q_dcC dX9_from_25 q_dcN) (show _ = some (27, [.ref 94, .int x1, .int x2, .int x3, .int x4, .int y0], [.int y0, .ref 95]) from rfl)).trans ?_
      exact K_calV (d := d) (Y := mX9_from) (Z := mX7_add) (vs := [.int y0]) (rest := []) (la := [.ref 95, .int y0, .retAddr 0]) dX9_from_27 rfl rfl rfl rfl ⟨by decide, rfl⟩ (Nat.le_of_ble_eq_true rfl) rfl (Nat.le_of_ble_eq_true rfl)
theorem B_X9_from_30 {o : q_H} (d : Nat) (x1 x2 x3 x4 x5 y0 : Int32) (g : Nat → Nat → Int32) : q_sem (d + 1) mX9_from 30 [.ref 94, .int x1, .int x2, .int x3, .int x4, .int x5] [.int y0] (q_K o g) = (if 40 ≤ x5 then (q_sem d mX9_friendBody 0 [.ref 94, .int x5, .int x3, .int x4] [] (q_K o g)).bind (fun r => q_sem (d + 1) mX9_from 59 [.ref 94, .int x1, .int x2, .int x3, .int x4, .int x5] (r.1.toList ++ []) r.2) else (q_sem d mX9_enemyBody 0 [.ref 94, .int x5, .int x3, .int x4] [] (q_K o g)).bind (fun r => q_sem (d + 1) mX9_from 47 [.ref 94, .int x1, .int x2, .int x3, .int x4, .int x5] (r.1.toList ++ []) r.2)) := by
  refine (q_blk (Y := mX9_from) (q_dcC dX9_from_30 (q_dcC dX9_from_31 (q_dcC dX9_from_33 (q_dcC dX9_from_35 q_dcN)))) (show _ = some ((if q_cc .ge x5 40 = true then 50 else 38), [.ref 94, .int x1, .int x2, .int x3, .int x4, .int x5], []) from rfl)).trans ?_
  by_cases c1 : 40 ≤ x5
  · rw [if_pos (show q_cc .ge x5 40 = true from decide_eq_true c1)]
    refine Eq.trans ?_ (if_pos c1).symm
    refine (q_blk (Y := mX9_from) (q_dcC dX9_from_50 (q_dcC dX9_from_51 (q_dcC dX9_from_53 (q_dcC dX9_from_54 q_dcN)))) (show _ = some (56, [.ref 94, .int x1, .int x2, .int x3, .int x4, .int x5], [.int x4, .int x3, .int x5, .ref 94]) from rfl)).trans ?_
    exact K_calV (d := d) (Y := mX9_from) (Z := mX9_friendBody) (vs := [.int x5, .int x3, .int x4]) (rest := []) (la := [.ref 94, .int x5, .int x3, .int x4]) dX9_from_56 rfl rfl rfl rfl ⟨by decide, rfl⟩ (Nat.le_of_ble_eq_true rfl) rfl (Nat.le_of_ble_eq_true rfl)
  · rw [if_neg (show ¬ q_cc .ge x5 40 = true from fun z => c1 (of_decide_eq_true z))]
    refine Eq.trans ?_ (if_neg c1).symm
    refine (q_blk (Y := mX9_from) (q_dcC dX9_from_38 (q_dcC dX9_from_39 (q_dcC dX9_from_41 (q_dcC dX9_from_42 q_dcN)))) (show _ = some (44, [.ref 94, .int x1, .int x2, .int x3, .int x4, .int x5], [.int x4, .int x3, .int x5, .ref 94]) from rfl)).trans ?_
    exact K_calV (d := d) (Y := mX9_from) (Z := mX9_enemyBody) (vs := [.int x5, .int x3, .int x4]) (rest := []) (la := [.ref 94, .int x5, .int x3, .int x4]) dX9_from_44 rfl rfl rfl rfl ⟨by decide, rfl⟩ (Nat.le_of_ble_eq_true rfl) rfl (Nat.le_of_ble_eq_true rfl)
theorem B_X9_from_59 {o : q_H} (d : Nat) (x1 x2 x3 x4 x5 y0 : Int32) (g : Nat → Nat → Int32) : q_sem (d) mX9_from 59 [.ref 94, .int x1, .int x2, .int x3, .int x4, .int x5] [.int y0] (q_K o g) = some (some (.int y0), q_K o g) := by
  exact k_iret (Y := mX9_from) dX9_from_59 rfl
theorem B_X9_from_47 {o : q_H} (d : Nat) (x1 x2 x3 x4 x5 y0 : Int32) (g : Nat → Nat → Int32) : q_sem (d) mX9_from 47 [.ref 94, .int x1, .int x2, .int x3, .int x4, .int x5] [.int y0] (q_K o g) = some (some (.int y0), q_K o g) := by
  refine (q_blk (Y := mX9_from) (q_dcC dX9_from_47 q_dcN) (show _ = some (59, [.ref 94, .int x1, .int x2, .int x3, .int x4, .int x5], [.int y0]) from rfl)).trans ?_
  exact k_iret (Y := mX9_from) dX9_from_59 rfl
theorem B_X9_bodyFrom_0 {o : q_H} (d : Nat) (x0 x1 : Int32) (g : Nat → Nat → Int32) : q_sem (d) mX9_bodyFrom 0 [.int x0, .int x1, .retAddr 0, .retAddr 0, .retAddr 0] [] (q_K o g) = q_sem (d) mX9_bodyFrom 4 [.int x0, .int x1, .int x0, .int 0, .retAddr 0] [] (q_K o g) := by
  refine (q_blk (Y := mX9_bodyFrom) (q_dcC dX9_bodyFrom_0 (q_dcC dX9_bodyFrom_1 (q_dcC dX9_bodyFrom_2 (q_dcC dX9_bodyFrom_3 q_dcN)))) (show _ = some (4, [.int x0, .int x1, .int x0, .int 0, .retAddr 0], []) from rfl)).trans ?_
  rfl
theorem B_X9_bodyFrom_4 {o : q_H} (ho : q_oR o) (d : Nat) (x0 x1 x2 x3 : Int32) (g : Nat → Nat → Int32) : q_sem (d + 1) mX9_bodyFrom 4 [.int x0, .int x1, .int x2, .int x3, .retAddr 0] [] (q_K o g) = (if 24 ≤ x3 then some (some (.int 0), q_K o g) else (if x2 < 0 then some (some (.int 0), q_K o g) else (if ((4 * x2) + x1) < 0 then (q_sem d mX10_above 0 [.int x2] [] (q_K o g)).bind (fun r => q_sem (d + 1) mX9_bodyFrom 57 [.int x0, .int x1, .int x2, .int x3, .int ((4 * x2) + x1)] (r.1.toList ++ []) r.2) else (if 24 ≤ ((4 * x2) + x1) then (q_sem d mX10_above 0 [.int x2] [] (q_K o g)).bind (fun r => q_sem (d + 1) mX9_bodyFrom 57 [.int x0, .int x1, .int x2, .int x3, .int ((4 * x2) + x1)] (r.1.toList ++ []) r.2) else (q_rg ((4 * x2) + x1) 24 (fun j5 => (if (q_way 4 j5) = 0 then (q_sem d mX10_above 0 [.int x2] [] (q_K o g)).bind (fun r => q_sem (d + 1) mX9_bodyFrom 57 [.int x0, .int x1, .int x2, .int x3, .int ((4 * x2) + x1)] (r.1.toList ++ []) r.2) else (q_rg ((4 * x2) + x1) 24 (fun j7 => some (some (.int (q_way 4 j7)), q_K o g)))))))))) := by
  refine (q_blk (Y := mX9_bodyFrom) (q_dcC dX9_bodyFrom_4 q_dcN) (show _ = some (5, [.int x0, .int x1, .int x2, .int x3, .retAddr 0], [.int x3]) from rfl)).trans ?_
  refine (k_sta (Y := mX9_bodyFrom) (k := 4) dX9_bodyFrom_5 rfl).trans ?_
  refine (k_rolen (Y := mX9_bodyFrom) (k := 4) ho (by decide) dX9_bodyFrom_8).trans ?_
  refine (q_blk (Y := mX9_bodyFrom) (q_dcC dX9_bodyFrom_9 q_dcN) (show _ = some ((if q_cc .ge x3 24 = true then 64 else 12), [.int x0, .int x1, .int x2, .int x3, .retAddr 0], []) from rfl)).trans ?_
  by_cases c1 : 24 ≤ x3
  · rw [if_pos (show q_cc .ge x3 24 = true from decide_eq_true c1)]
    refine Eq.trans ?_ (if_pos c1).symm
    refine (q_blk (Y := mX9_bodyFrom) (q_dcC dX9_bodyFrom_64 q_dcN) (show _ = some (65, [.int x0, .int x1, .int x2, .int x3, .retAddr 0], [.int 0]) from rfl)).trans ?_
    exact k_iret (Y := mX9_bodyFrom) dX9_bodyFrom_65 rfl
  · rw [if_neg (show ¬ q_cc .ge x3 24 = true from fun z => c1 (of_decide_eq_true z))]
    refine Eq.trans ?_ (if_neg c1).symm
    refine (q_blk (Y := mX9_bodyFrom) (q_dcC dX9_bodyFrom_12 (q_dcC dX9_bodyFrom_13 q_dcN)) (show _ = some ((if q_cc .lt x2 0 = true then 64 else 16), [.int x0, .int x1, .int x2, .int x3, .retAddr 0], []) from rfl)).trans ?_
    by_cases c2 : x2 < 0
    · rw [if_pos (show q_cc .lt x2 0 = true from decide_eq_true c2)]
      refine Eq.trans ?_ (if_pos c2).symm
      refine (q_blk (Y := mX9_bodyFrom) (q_dcC dX9_bodyFrom_64 q_dcN) (show _ = some (65, [.int x0, .int x1, .int x2, .int x3, .retAddr 0], [.int 0]) from rfl)).trans ?_
      exact k_iret (Y := mX9_bodyFrom) dX9_bodyFrom_65 rfl
    · rw [if_neg (show ¬ q_cc .lt x2 0 = true from fun z => c2 (of_decide_eq_true z))]
      refine Eq.trans ?_ (if_neg c2).symm
      refine (q_blk (Y := mX9_bodyFrom) (q_dcC dX9_bodyFrom_16 (q_dcC dX9_bodyFrom_17 (q_dcC dX9_bodyFrom_18 (q_dcC dX9_bodyFrom_19 (q_dcC dX9_bodyFrom_20 (q_dcC dX9_bodyFrom_21 (q_dcC dX9_bodyFrom_23 (q_dcC dX9_bodyFrom_25 q_dcN)))))))) (show _ = some ((if q_cc .lt ((4 * x2) + x1) 0 = true then 53 else 28), [.int x0, .int x1, .int x2, .int x3, .int ((4 * x2) + x1)], []) from rfl)).trans ?_
      by_cases c3 : ((4 * x2) + x1) < 0
      · rw [if_pos (show q_cc .lt ((4 * x2) + x1) 0 = true from decide_eq_true c3)]
        refine Eq.trans ?_ (if_pos c3).symm
        refine (q_blk (Y := mX9_bodyFrom) (q_dcC dX9_bodyFrom_53 q_dcN) (show _ = some (54, [.int x0, .int x1, .int x2, .int x3, .int ((4 * x2) + x1)], [.int x2]) from rfl)).trans ?_
        exact K_calS (d := d) (Y := mX9_bodyFrom) (Z := mX10_above) (vs := [.int x2]) (rest := []) (la := [.int x2]) dX9_bodyFrom_54 rfl rfl rfl rfl (Nat.le_of_ble_eq_true rfl) rfl (Nat.le_of_ble_eq_true rfl)
      · rw [if_neg (show ¬ q_cc .lt ((4 * x2) + x1) 0 = true from fun z => c3 (of_decide_eq_true z))]
        refine Eq.trans ?_ (if_neg c3).symm
        refine (q_blk (Y := mX9_bodyFrom) (q_dcC dX9_bodyFrom_28 q_dcN) (show _ = some (30, [.int x0, .int x1, .int x2, .int x3, .int ((4 * x2) + x1)], [.int ((4 * x2) + x1)]) from rfl)).trans ?_
        refine (k_sta (Y := mX9_bodyFrom) (k := 4) dX9_bodyFrom_30 rfl).trans ?_
        refine (k_rolen (Y := mX9_bodyFrom) (k := 4) ho (by decide) dX9_bodyFrom_33).trans ?_
        refine (q_blk (Y := mX9_bodyFrom) (q_dcC dX9_bodyFrom_34 q_dcN) (show _ = some ((if q_cc .ge ((4 * x2) + x1) 24 = true then 53 else 37), [.int x0, .int x1, .int x2, .int x3, .int ((4 * x2) + x1)], []) from rfl)).trans ?_
        by_cases c4 : 24 ≤ ((4 * x2) + x1)
        · rw [if_pos (show q_cc .ge ((4 * x2) + x1) 24 = true from decide_eq_true c4)]
          refine Eq.trans ?_ (if_pos c4).symm
          refine (q_blk (Y := mX9_bodyFrom) (q_dcC dX9_bodyFrom_53 q_dcN) (show _ = some (54, [.int x0, .int x1, .int x2, .int x3, .int ((4 * x2) + x1)], [.int x2]) from rfl)).trans ?_
          exact K_calS (d := d) (Y := mX9_bodyFrom) (Z := mX10_above) (vs := [.int x2]) (rest := []) (la := [.int x2]) dX9_bodyFrom_54 rfl rfl rfl rfl (Nat.le_of_ble_eq_true rfl) rfl (Nat.le_of_ble_eq_true rfl)
        · rw [if_neg (show ¬ q_cc .ge ((4 * x2) + x1) 24 = true from fun z => c4 (of_decide_eq_true z))]
          refine Eq.trans ?_ (if_neg c4).symm
          refine (k_sta (Y := mX9_bodyFrom) (k := 4) dX9_bodyFrom_37 rfl).trans ?_
          refine (q_blk (Y := mX9_bodyFrom) (q_dcC dX9_bodyFrom_40 q_dcN) (show _ = some (42, [.int x0, .int x1, .int x2, .int x3, .int ((4 * x2) + x1)], [.int ((4 * x2) + x1), .ref (q_M + 4)]) from rfl)).trans ?_
          by_cases c5 : q_inn ((4 * x2) + x1) 24
          rotate_left
          · refine Eq.trans ?_ (q_rgF c5).symm
            exact K_roaldX (Y := mX9_bodyFrom) (k := 4) ho (by decide) dX9_bodyFrom_42 c5
          refine Eq.trans ?_ (q_rgT c5).symm
          refine (K_roald (Y := mX9_bodyFrom) (k := 4) ho (by decide) dX9_bodyFrom_42 c5).trans ?_
          refine (q_blk (Y := mX9_bodyFrom) (q_dcC dX9_bodyFrom_43 q_dcN) (show _ = some ((if q_cc .eq (q_way 4 ((4 * x2) + x1).toNatClampNeg) 0 = true then 53 else 46), [.int x0, .int x1, .int x2, .int x3, .int ((4 * x2) + x1)], []) from rfl)).trans ?_
          by_cases c6 : (q_way 4 ((4 * x2) + x1).toNatClampNeg) = 0
          · rw [if_pos (show q_cc .eq (q_way 4 ((4 * x2) + x1).toNatClampNeg) 0 = true from decide_eq_true c6)]
            refine Eq.trans ?_ (if_pos c6).symm
            refine (q_blk (Y := mX9_bodyFrom) (q_dcC dX9_bodyFrom_53 q_dcN) (show _ = some (54, [.int x0, .int x1, .int x2, .int x3, .int ((4 * x2) + x1)], [.int x2]) from rfl)).trans ?_
            exact K_calS (d := d) (Y := mX9_bodyFrom) (Z := mX10_above) (vs := [.int x2]) (rest := []) (la := [.int x2]) dX9_bodyFrom_54 rfl rfl rfl rfl (Nat.le_of_ble_eq_true rfl) rfl (Nat.le_of_ble_eq_true rfl)
          · rw [if_neg (show ¬ q_cc .eq (q_way 4 ((4 * x2) + x1).toNatClampNeg) 0 = true from fun z => c6 (of_decide_eq_true z))]
            refine Eq.trans ?_ (if_neg c6).symm
            refine (k_sta (Y := mX9_bodyFrom) (k := 4) dX9_bodyFrom_46 rfl).trans ?_
            refine (q_blk (Y := mX9_bodyFrom) (q_dcC dX9_bodyFrom_49 q_dcN) (show _ = some (51, [.int x0, .int x1, .int x2, .int x3, .int ((4 * x2) + x1)], [.int ((4 * x2) + x1), .ref (q_M + 4)]) from rfl)).trans ?_
            by_cases c7 : q_inn ((4 * x2) + x1) 24
            rotate_left
            · refine Eq.trans ?_ (q_rgF c7).symm
              exact K_roaldX (Y := mX9_bodyFrom) (k := 4) ho (by decide) dX9_bodyFrom_51 c7
            refine Eq.trans ?_ (q_rgT c7).symm
            refine (K_roald (Y := mX9_bodyFrom) (k := 4) ho (by decide) dX9_bodyFrom_51 c7).trans ?_
            exact k_iret (Y := mX9_bodyFrom) dX9_bodyFrom_52 rfl
theorem B_X9_bodyFrom_57 {o : q_H} (d : Nat) (x0 x1 x2 x3 x4 y0 : Int32) (g : Nat → Nat → Int32) : q_sem (d) mX9_bodyFrom 57 [.int x0, .int x1, .int x2, .int x3, .int x4] [.int y0] (q_K o g) = q_sem (d) mX9_bodyFrom 4 [.int x0, .int x1, .int y0, .int (x3 + 1), .int x4] [] (q_K o g) := by
  refine (q_blk (Y := mX9_bodyFrom) (q_dcC dX9_bodyFrom_57 (q_dcC dX9_bodyFrom_58 (q_dcC dX9_bodyFrom_61 q_dcN))) (show _ = some (4, [.int x0, .int x1, .int y0, .int (x3 + 1), .int x4], []) from rfl)).trans ?_
  rfl
theorem B_X9_bodyFrom_4a {o : q_H} (ho : q_oR o) (d : Nat) (x0 x1 x2 x3 x4 : Int32) (g : Nat → Nat → Int32) : q_sem (d + 1) mX9_bodyFrom 4 [.int x0, .int x1, .int x2, .int x3, .int x4] [] (q_K o g) = (if 24 ≤ x3 then some (some (.int 0), q_K o g) else (if x2 < 0 then some (some (.int 0), q_K o g) else (if ((4 * x2) + x1) < 0 then (q_sem d mX10_above 0 [.int x2] [] (q_K o g)).bind (fun r => q_sem (d + 1) mX9_bodyFrom 57 [.int x0, .int x1, .int x2, .int x3, .int ((4 * x2) + x1)] (r.1.toList ++ []) r.2) else (if 24 ≤ ((4 * x2) + x1) then (q_sem d mX10_above 0 [.int x2] [] (q_K o g)).bind (fun r => q_sem (d + 1) mX9_bodyFrom 57 [.int x0, .int x1, .int x2, .int x3, .int ((4 * x2) + x1)] (r.1.toList ++ []) r.2) else (q_rg ((4 * x2) + x1) 24 (fun j5 => (if (q_way 4 j5) = 0 then (q_sem d mX10_above 0 [.int x2] [] (q_K o g)).bind (fun r => q_sem (d + 1) mX9_bodyFrom 57 [.int x0, .int x1, .int x2, .int x3, .int ((4 * x2) + x1)] (r.1.toList ++ []) r.2) else (q_rg ((4 * x2) + x1) 24 (fun j7 => some (some (.int (q_way 4 j7)), q_K o g)))))))))) := by
  refine (q_blk (Y := mX9_bodyFrom) (q_dcC dX9_bodyFrom_4 q_dcN) (show _ = some (5, [.int x0, .int x1, .int x2, .int x3, .int x4], [.int x3]) from rfl)).trans ?_
  refine (k_sta (Y := mX9_bodyFrom) (k := 4) dX9_bodyFrom_5 rfl).trans ?_
  refine (k_rolen (Y := mX9_bodyFrom) (k := 4) ho (by decide) dX9_bodyFrom_8).trans ?_
  refine (q_blk (Y := mX9_bodyFrom) (q_dcC dX9_bodyFrom_9 q_dcN) (show _ = some ((if q_cc .ge x3 24 = true then 64 else 12), [.int x0, .int x1, .int x2, .int x3, .int x4], []) from rfl)).trans ?_
  by_cases c1 : 24 ≤ x3
  · rw [if_pos (show q_cc .ge x3 24 = true from decide_eq_true c1)]
    refine Eq.trans ?_ (if_pos c1).symm
    refine (q_blk (Y := mX9_bodyFrom) (q_dcC dX9_bodyFrom_64 q_dcN) (show _ = some (65, [.int x0, .int x1, .int x2, .int x3, .int x4], [.int 0]) from rfl)).trans ?_
    exact k_iret (Y := mX9_bodyFrom) dX9_bodyFrom_65 rfl
  · rw [if_neg (show ¬ q_cc .ge x3 24 = true from fun z => c1 (of_decide_eq_true z))]
    refine Eq.trans ?_ (if_neg c1).symm
    refine (q_blk (Y := mX9_bodyFrom) (q_dcC dX9_bodyFrom_12 (q_dcC dX9_bodyFrom_13 q_dcN)) (show _ = some ((if q_cc .lt x2 0 = true then 64 else 16), [.int x0, .int x1, .int x2, .int x3, .int x4], []) from rfl)).trans ?_
    by_cases c2 : x2 < 0
    · rw [if_pos (show q_cc .lt x2 0 = true from decide_eq_true c2)]
      refine Eq.trans ?_ (if_pos c2).symm
      refine (q_blk (Y := mX9_bodyFrom) (q_dcC dX9_bodyFrom_64 q_dcN) (show _ = some (65, [.int x0, .int x1, .int x2, .int x3, .int x4], [.int 0]) from rfl)).trans ?_
      exact k_iret (Y := mX9_bodyFrom) dX9_bodyFrom_65 rfl
    · rw [if_neg (show ¬ q_cc .lt x2 0 = true from fun z => c2 (of_decide_eq_true z))]
      refine Eq.trans ?_ (if_neg c2).symm
      refine (q_blk (Y := mX9_bodyFrom) (q_dcC dX9_bodyFrom_16 (q_dcC dX9_bodyFrom_17 (q_dcC dX9_bodyFrom_18 (q_dcC dX9_bodyFrom_19 (q_dcC dX9_bodyFrom_20 (q_dcC dX9_bodyFrom_21 (q_dcC dX9_bodyFrom_23 (q_dcC dX9_bodyFrom_25 q_dcN)))))))) (show _ = some ((if q_cc .lt ((4 * x2) + x1) 0 = true then 53 else 28), [.int x0, .int x1, .int x2, .int x3, .int ((4 * x2) + x1)], []) from rfl)).trans ?_
      by_cases c3 : ((4 * x2) + x1) < 0
      · rw [if_pos (show q_cc .lt ((4 * x2) + x1) 0 = true from decide_eq_true c3)]
        refine Eq.trans ?_ (if_pos c3).symm
        refine (q_blk (Y := mX9_bodyFrom) (q_dcC dX9_bodyFrom_53 q_dcN) (show _ = some (54, [.int x0, .int x1, .int x2, .int x3, .int ((4 * x2) + x1)], [.int x2]) from rfl)).trans ?_
        exact K_calS (d := d) (Y := mX9_bodyFrom) (Z := mX10_above) (vs := [.int x2]) (rest := []) (la := [.int x2]) dX9_bodyFrom_54 rfl rfl rfl rfl (Nat.le_of_ble_eq_true rfl) rfl (Nat.le_of_ble_eq_true rfl)
      · rw [if_neg (show ¬ q_cc .lt ((4 * x2) + x1) 0 = true from fun z => c3 (of_decide_eq_true z))]
        refine Eq.trans ?_ (if_neg c3).symm
        refine (q_blk (Y := mX9_bodyFrom) (q_dcC dX9_bodyFrom_28 q_dcN) (show _ = some (30, [.int x0, .int x1, .int x2, .int x3, .int ((4 * x2) + x1)], [.int ((4 * x2) + x1)]) from rfl)).trans ?_
        refine (k_sta (Y := mX9_bodyFrom) (k := 4) dX9_bodyFrom_30 rfl).trans ?_
        refine (k_rolen (Y := mX9_bodyFrom) (k := 4) ho (by decide) dX9_bodyFrom_33).trans ?_
        refine (q_blk (Y := mX9_bodyFrom) (q_dcC dX9_bodyFrom_34 q_dcN) (show _ = some ((if q_cc .ge ((4 * x2) + x1) 24 = true then 53 else 37), [.int x0, .int x1, .int x2, .int x3, .int ((4 * x2) + x1)], []) from rfl)).trans ?_
        by_cases c4 : 24 ≤ ((4 * x2) + x1)
        · rw [if_pos (show q_cc .ge ((4 * x2) + x1) 24 = true from decide_eq_true c4)]
          refine Eq.trans ?_ (if_pos c4).symm
          refine (q_blk (Y := mX9_bodyFrom) (q_dcC dX9_bodyFrom_53 q_dcN) (show _ = some (54, [.int x0, .int x1, .int x2, .int x3, .int ((4 * x2) + x1)], [.int x2]) from rfl)).trans ?_
          exact K_calS (d := d) (Y := mX9_bodyFrom) (Z := mX10_above) (vs := [.int x2]) (rest := []) (la := [.int x2]) dX9_bodyFrom_54 rfl rfl rfl rfl (Nat.le_of_ble_eq_true rfl) rfl (Nat.le_of_ble_eq_true rfl)
        · rw [if_neg (show ¬ q_cc .ge ((4 * x2) + x1) 24 = true from fun z => c4 (of_decide_eq_true z))]
          refine Eq.trans ?_ (if_neg c4).symm
          refine (k_sta (Y := mX9_bodyFrom) (k := 4) dX9_bodyFrom_37 rfl).trans ?_
          refine (q_blk (Y := mX9_bodyFrom) (q_dcC dX9_bodyFrom_40 q_dcN) (show _ = some (42, [.int x0, .int x1, .int x2, .int x3, .int ((4 * x2) + x1)], [.int ((4 * x2) + x1), .ref (q_M + 4)]) from rfl)).trans ?_
          by_cases c5 : q_inn ((4 * x2) + x1) 24
          rotate_left
          · refine Eq.trans ?_ (q_rgF c5).symm
            exact K_roaldX (Y := mX9_bodyFrom) (k := 4) ho (by decide) dX9_bodyFrom_42 c5
          refine Eq.trans ?_ (q_rgT c5).symm
          refine (K_roald (Y := mX9_bodyFrom) (k := 4) ho (by decide) dX9_bodyFrom_42 c5).trans ?_
          refine (q_blk (Y := mX9_bodyFrom) (q_dcC dX9_bodyFrom_43 q_dcN) (show _ = some ((if q_cc .eq (q_way 4 ((4 * x2) + x1).toNatClampNeg) 0 = true then 53 else 46), [.int x0, .int x1, .int x2, .int x3, .int ((4 * x2) + x1)], []) from rfl)).trans ?_
          by_cases c6 : (q_way 4 ((4 * x2) + x1).toNatClampNeg) = 0
          · rw [if_pos (show q_cc .eq (q_way 4 ((4 * x2) + x1).toNatClampNeg) 0 = true from decide_eq_true c6)]
            refine Eq.trans ?_ (if_pos c6).symm
            refine (q_blk (Y := mX9_bodyFrom) (q_dcC dX9_bodyFrom_53 q_dcN) (show _ = some (54, [.int x0, .int x1, .int x2, .int x3, .int ((4 * x2) + x1)], [.int x2]) from rfl)).trans ?_
            exact K_calS (d := d) (Y := mX9_bodyFrom) (Z := mX10_above) (vs := [.int x2]) (rest := []) (la := [.int x2]) dX9_bodyFrom_54 rfl rfl rfl rfl (Nat.le_of_ble_eq_true rfl) rfl (Nat.le_of_ble_eq_true rfl)
          · rw [if_neg (show ¬ q_cc .eq (q_way 4 ((4 * x2) + x1).toNatClampNeg) 0 = true from fun z => c6 (of_decide_eq_true z))]
            refine Eq.trans ?_ (if_neg c6).symm
            refine (k_sta (Y := mX9_bodyFrom) (k := 4) dX9_bodyFrom_46 rfl).trans ?_
            refine (q_blk (Y := mX9_bodyFrom) (q_dcC dX9_bodyFrom_49 q_dcN) (show _ = some (51, [.int x0, .int x1, .int x2, .int x3, .int ((4 * x2) + x1)], [.int ((4 * x2) + x1), .ref (q_M + 4)]) from rfl)).trans ?_
            by_cases c7 : q_inn ((4 * x2) + x1) 24
            rotate_left
            · refine Eq.trans ?_ (q_rgF c7).symm
              exact K_roaldX (Y := mX9_bodyFrom) (k := 4) ho (by decide) dX9_bodyFrom_51 c7
            refine Eq.trans ?_ (q_rgT c7).symm
            refine (K_roald (Y := mX9_bodyFrom) (k := 4) ho (by decide) dX9_bodyFrom_51 c7).trans ?_
            exact k_iret (Y := mX9_bodyFrom) dX9_bodyFrom_52 rfl
theorem B_X9_enemyBody_0 {o : q_H} (d : Nat) (x1 x2 x3 : Int32) (g : Nat → Nat → Int32) : q_sem (d + 1) mX9_enemyBody 0 [.ref 94, .int x1, .int x2, .int x3] [] (q_K o g) = (if x1 = 10 then some (some (.int (x2 + (g 94 2))), q_K o g) else (if x1 = 11 then (q_sem d mX9_own 0 [.ref 94, .int 0, .int x2, .int x3] [] (q_K o g)).bind (fun r => q_sem (d + 1) mX9_enemyBody 114 [.ref 94, .int x1, .int x2, .int x3] (r.1.toList ++ []) r.2) else (if x1 = 12 then (q_sem d mX9_own 0 [.ref 94, .int 1, .int x2, .int x3] [] (q_K o g)).bind (fun r => q_sem (d + 1) mX9_enemyBody 124 [.ref 94, .int x1, .int x2, .int x3] (r.1.toList ++ []) r.2) else (if x1 = 13 then (q_sem d mX9_own 0 [.ref 94, .int 2, .int x2, .int x3] [] (q_K o g)).bind (fun r => q_sem (d + 1) mX9_enemyBody 137 [.ref 94, .int x1, .int x2, .int x3] (r.1.toList ++ []) r.2) else (if x1 = 14 then (q_sem d mX9_from 0 [.ref 94, .int 1, .int 2, .int (x2 + 1), .int (x3 + 1), .retAddr 0] [] (q_K o g)).bind (fun r => q_sem (d + 1) mX9_enemyBody 203 [.ref 94, .int x1, .int x2, .int x3] (r.1.toList ++ []) r.2) else (if x1 = 15 then (q_sem d mX9_from 0 [.ref 94, .int 1, .int 2, .int (x2 + 1), .int (x3 + 1), .retAddr 0] [] (q_K o g)).bind (fun r => q_sem (d + 1) mX9_enemyBody 203 [.ref 94, .int x1, .int x2, .int x3] (r.1.toList ++ []) r.2) else (if x1 = 16 then (q_sem d mX9_from 0 [.ref 94, .int 1, .int 2, .int (x2 + 1), .int (x3 + 1), .retAddr 0] [] (q_K o g)).bind (fun r => q_sem (d + 1) mX9_enemyBody 203 [.ref 94, .int x1, .int x2, .int x3] (r.1.toList ++ []) r.2) else (if x1 = 17 then (q_sem d mX9_from 0 [.ref 94, .int 1, .int 2, .int (x2 + 1), .int (x3 + 1), .retAddr 0] [] (q_K o g)).bind (fun r => q_sem (d + 1) mX9_enemyBody 203 [.ref 94, .int x1, .int x2, .int x3] (r.1.toList ++ []) r.2) else (if x1 = 18 then (q_sem d mX9_from 0 [.ref 94, .int 1, .int 2, .int (x2 + 1), .int (x3 + 1), .retAddr 0] [] (q_K o g)).bind (fun r => q_sem (d + 1) mX9_enemyBody 203 [.ref 94, .int x1, .int x2, .int x3] (r.1.toList ++ []) r.2) else (if x1 = 19 then (q_sem d mX9_from 0 [.ref 94, .int 1, .int 2, .int (x2 + 1), .int (x3 + 1), .retAddr 0] [] (q_K o g)).bind (fun r => q_sem (d + 1) mX9_enemyBody 203 [.ref 94, .int x1, .int x2, .int x3] (r.1.toList ++ []) r.2) else (if x1 = 20 then (q_sem d mX9_from 0 [.ref 94, .int 0, .int 1, .int x2, .int (x3 + 1), .retAddr 0] [] (q_K o g)).bind (fun r => q_sem (d + 1) mX9_enemyBody 156 [.ref 94, .int x1, .int x2, .int x3] (r.1.toList ++ []) r.2) else (if x1 = 21 then (q_sem d mX9_from 0 [.ref 94, .int 0, .int 3, .int x2, .int (x3 + 1), .retAddr 0] [] (q_K o g)).bind (fun r => q_sem (d + 1) mX9_enemyBody 173 [.ref 94, .int x1, .int x2, .int x3] (r.1.toList ++ [.int 0]) r.2) else (if x1 = 22 then (q_sem d mX9_from 0 [.ref 94, .int 1, .int 2, .int (x2 + 1), .int (x3 + 1), .retAddr 0] [] (q_K o g)).bind (fun r => q_sem (d + 1) mX9_enemyBody 203 [.ref 94, .int x1, .int x2, .int x3] (r.1.toList ++ []) r.2) else (if x1 = 23 then (q_sem d mX9_from 0 [.ref 94, .int 1, .int 2, .int (x2 + 1), .int (x3 + 1), .retAddr 0] [] (q_K o g)).bind (fun r => q_sem (d + 1) mX9_enemyBody 203 [.ref 94, .int x1, .int x2, .int x3] (r.1.toList ++ []) r.2) else (if x1 = 24 then (q_sem d mX9_from 0 [.ref 94, .int 1, .int 2, .int (x2 + 1), .int (x3 + 1), .retAddr 0] [] (q_K o g)).bind (fun r => q_sem (d + 1) mX9_enemyBody 203 [.ref 94, .int x1, .int x2, .int x3] (r.1.toList ++ []) r.2) else (if x1 = 25 then (q_sem d mX9_from 0 [.ref 94, .int 1, .int 2, .int (x2 + 1), .int (x3 + 1), .retAddr 0] [] (q_K o g)).bind (fun r => q_sem (d + 1) mX9_enemyBody 203 [.ref 94, .int x1, .int x2, .int x3] (r.1.toList ++ []) r.2) else (if x1 = 26 then (q_sem d mX9_from 0 [.ref 94, .int 1, .int 2, .int (x2 + 1), .int (x3 + 1), .retAddr 0] [] (q_K o g)).bind (fun r => q_sem (d + 1) mX9_enemyBody 203 [.ref 94, .int x1, .int x2, .int x3] (r.1.toList ++ []) r.2) else (if x1 = 27 then (q_sem d mX9_from 0 [.ref 94, .int 1, .int 2, .int (x2 + 1), .int (x3 + 1), .retAddr 0] [] (q_K o g)).bind (fun r => q_sem (d + 1) mX9_enemyBody 203 [.ref 94, .int x1, .int x2, .int x3] (r.1.toList ++ []) r.2) else (if x1 = 28 then (q_sem d mX9_from 0 [.ref 94, .int 1, .int 2, .int (x2 + 1), .int (x3 + 1), .retAddr 0] [] (q_K o g)).bind (fun r => q_sem (d + 1) mX9_enemyBody 203 [.ref 94, .int x1, .int x2, .int x3] (r.1.toList ++ []) r.2) else (if x1 = 29 then (q_sem d mX9_from 0 [.ref 94, .int 1, .int 2, .int (x2 + 1), .int (x3 + 1), .retAddr 0] [] (q_K o g)).bind (fun r => q_sem (d + 1) mX9_enemyBody 203 [.ref 94, .int x1, .int x2, .int x3] (r.1.toList ++ []) r.2) else (if x1 = 30 then (q_sem d mX9_from 0 [.ref 94, .int 1, .int 0, .int x2, .int (x3 + 1), .retAddr 0] [] (q_K o g)).bind (fun r => q_sem (d + 1) mX9_enemyBody 185 [.ref 94, .int x1, .int x2, .int x3] (r.1.toList ++ []) r.2) else (q_sem d mX9_from 0 [.ref 94, .int 1, .int 2, .int (x2 + 1), .int (x3 + 1), .retAddr 0] [] (q_K o g)).bind (fun r => q_sem (d + 1) mX9_enemyBody 203 [.ref 94, .int x1, .int x2, .int x3] (r.1.toList ++ []) r.2)))))))))))))))))))))) := by
  refine (q_blk (Y := mX9_enemyBody) (q_dcC dX9_enemyBody_0 q_dcN) (show _ = some (1, [.ref 94, .int x1, .int x2, .int x3], [.int x1]) from rfl)).trans ?_
  by_cases c1 : x1 = 10
  · refine Eq.trans ?_ (if_pos c1).symm
    refine (k_sw (Y := mX9_enemyBody) (t := 100) dX9_enemyBody_1 rfl ⟨rfl, rfl⟩ (by rw [c1]; rfl)).trans ?_
    refine (q_blk (Y := mX9_enemyBody) (q_dcC dX9_enemyBody_100 (q_dcC dX9_enemyBody_101 q_dcN)) (show _ = some (102, [.ref 94, .int x1, .int x2, .int x3], [.ref 94, .int x2]) from rfl)).trans ?_
    refine (k_geti (Y := mX9_enemyBody) dX9_enemyBody_102 rfl rfl ⟨by decide, rfl⟩ (by decide) rfl).trans ?_
    refine (q_blk (Y := mX9_enemyBody) (q_dcC dX9_enemyBody_105 q_dcN) (show _ = some (106, [.ref 94, .int x1, .int x2, .int x3], [.int (x2 + (g 94 2))]) from rfl)).trans ?_
    exact k_iret (Y := mX9_enemyBody) dX9_enemyBody_106 rfl
  refine Eq.trans ?_ (if_neg c1).symm
  by_cases c2 : x1 = 11
  · refine Eq.trans ?_ (if_pos c2).symm
    refine (k_sw (Y := mX9_enemyBody) (t := 107) dX9_enemyBody_1 rfl ⟨rfl, rfl⟩ (by rw [c2]; rfl)).trans ?_
    refine (q_blk (Y := mX9_enemyBody) (q_dcC dX9_enemyBody_107 (q_dcC dX9_enemyBody_108 (q_dcC dX9_enemyBody_109 (q_dcC dX9_enemyBody_110 q_dcN)))) (show _ = some (111, [.ref 94, .int x1, .int x2, .int x3], [.int x3, .int x2, .int 0, .ref 94]) from rfl)).trans ?_
    exact K_calV (d := d) (Y := mX9_enemyBody) (Z := mX9_own) (vs := [.int 0, .int x2, .int x3]) (rest := []) (la := [.ref 94, .int 0, .int x2, .int x3]) dX9_enemyBody_111 rfl rfl rfl rfl ⟨by decide, rfl⟩ (Nat.le_of_ble_eq_true rfl) rfl (Nat.le_of_ble_eq_true rfl)
  refine Eq.trans ?_ (if_neg c2).symm
  by_cases c3 : x1 = 12
  · refine Eq.trans ?_ (if_pos c3).symm
    refine (k_sw (Y := mX9_enemyBody) (t := 117) dX9_enemyBody_1 rfl ⟨rfl, rfl⟩ (by rw [c3]; rfl)).trans ?_
    refine (q_blk (Y := mX9_enemyBody) (q_dcC dX9_enemyBody_117 (q_dcC dX9_enemyBody_118 (q_dcC dX9_enemyBody_119 (q_dcC dX9_enemyBody_120 q_dcN)))) (show _ = some (121, [.ref 94, .int x1, .int x2, .int x3], [.int x3, .int x2, .int 1, .ref 94]) from rfl)).trans ?_
    exact K_calV (d := d) (Y := mX9_enemyBody) (Z := mX9_own) (vs := [.int 1, .int x2, .int x3]) (rest := []) (la := [.ref 94, .int 1, .int x2, .int x3]) dX9_enemyBody_121 rfl rfl rfl rfl ⟨by decide, rfl⟩ (Nat.le_of_ble_eq_true rfl) rfl (Nat.le_of_ble_eq_true rfl)
  refine Eq.trans ?_ (if_neg c3).symm
  by_cases c4 : x1 = 13
  · refine Eq.trans ?_ (if_pos c4).symm
    refine (k_sw (Y := mX9_enemyBody) (t := 130) dX9_enemyBody_1 rfl ⟨rfl, rfl⟩ (by rw [c4]; rfl)).trans ?_
    refine (q_blk (Y := mX9_enemyBody) (q_dcC dX9_enemyBody_130 (q_dcC dX9_enemyBody_131 (q_dcC dX9_enemyBody_132 (q_dcC dX9_enemyBody_133 q_dcN)))) (show _ = some (134, [.ref 94, .int x1, .int x2, .int x3], [.int x3, .int x2, .int 2, .ref 94]) from rfl)).trans ?_
    exact K_calV (d := d) (Y := mX9_enemyBody) (Z := mX9_own) (vs := [.int 2, .int x2, .int x3]) (rest := []) (la := [.ref 94, .int 2, .int x2, .int x3]) dX9_enemyBody_134 rfl rfl rfl rfl ⟨by decide, rfl⟩ (Nat.le_of_ble_eq_true rfl) rfl (Nat.le_of_ble_eq_true rfl)
  refine Eq.trans ?_ (if_neg c4).symm
  by_cases c5 : x1 = 14
  · refine Eq.trans ?_ (if_pos c5).symm
    refine (k_sw (Y := mX9_enemyBody) (t := 191) dX9_enemyBody_1 rfl ⟨rfl, rfl⟩ (by rw [c5]; rfl)).trans ?_
    refine (q_blk (Y := mX9_enemyBody) (q_dcC dX9_enemyBody_191 (q_dcC dX9_enemyBody_192 (q_dcC dX9_enemyBody_193 (q_dcC dX9_enemyBody_194 (q_dcC dX9_enemyBody_195 (q_dcC dX9_enemyBody_196 (q_dcC dX9_enemyBody_197 (q_dcC dX9_enemyBody_198 (q_dcC dX9_enemyBody_199 q_dcN))))))))) (show _ = some (200, [.ref 94, .int x1, .int x2, .int x3], [.int (x3 + 1), .int (x2 + 1), .int 2, .int 1, .ref 94]) from rfl)).trans ?_
    exact K_calV (d := d) (Y := mX9_enemyBody) (Z := mX9_from) (vs := [.int 1, .int 2, .int (x2 + 1), .int (x3 + 1)]) (rest := []) (la := [.ref 94, .int 1, .int 2, .int (x2 + 1), .int (x3 + 1), .retAddr 0]) dX9_enemyBody_200 rfl rfl rfl rfl ⟨by decide, rfl⟩ (Nat.le_of_ble_eq_true rfl) rfl (Nat.le_of_ble_eq_true rfl)
  refine Eq.trans ?_ (if_neg c5).symm
  by_cases c6 : x1 = 15
  · refine Eq.trans ?_ (if_pos c6).symm
    refine (k_sw (Y := mX9_enemyBody) (t := 191) dX9_enemyBody_1 rfl ⟨rfl, rfl⟩ (by rw [c6]; rfl)).trans ?_
    refine (q_blk (Y := mX9_enemyBody) (q_dcC dX9_enemyBody_191 (q_dcC dX9_enemyBody_192 (q_dcC dX9_enemyBody_193 (q_dcC dX9_enemyBody_194 (q_dcC dX9_enemyBody_195 (q_dcC dX9_enemyBody_196 (q_dcC dX9_enemyBody_197 (q_dcC dX9_enemyBody_198 (q_dcC dX9_enemyBody_199 q_dcN))))))))) (show _ = some (200, [.ref 94, .int x1, .int x2, .int x3], [.int (x3 + 1), .int (x2 + 1), .int 2, .int 1, .ref 94]) from rfl)).trans ?_
    exact K_calV (d := d) (Y := mX9_enemyBody) (Z := mX9_from) (vs := [.int 1, .int 2, .int (x2 + 1), .int (x3 + 1)]) (rest := []) (la := [.ref 94, .int 1, .int 2, .int (x2 + 1), .int (x3 + 1), .retAddr 0]) dX9_enemyBody_200 rfl rfl rfl rfl ⟨by decide, rfl⟩ (Nat.le_of_ble_eq_true rfl) rfl (Nat.le_of_ble_eq_true rfl)
  refine Eq.trans ?_ (if_neg c6).symm
  by_cases c7 : x1 = 16
  · refine Eq.trans ?_ (if_pos c7).symm
    refine (k_sw (Y := mX9_enemyBody) (t := 191) dX9_enemyBody_1 rfl ⟨rfl, rfl⟩ (by rw [c7]; rfl)).trans ?_
    refine (q_blk (Y := mX9_enemyBody) (q_dcC dX9_enemyBody_191 (q_dcC dX9_enemyBody_192 (q_dcC dX9_enemyBody_193 (q_dcC dX9_enemyBody_194 (q_dcC dX9_enemyBody_195 (q_dcC dX9_enemyBody_196 (q_dcC dX9_enemyBody_197 (q_dcC dX9_enemyBody_198 (q_dcC dX9_enemyBody_199 q_dcN))))))))) (show _ = some (200, [.ref 94, .int x1, .int x2, .int x3], [.int (x3 + 1), .int (x2 + 1), .int 2, .int 1, .ref 94]) from rfl)).trans ?_
    exact K_calV (d := d) (Y := mX9_enemyBody) (Z := mX9_from) (vs := [.int 1, .int 2, .int (x2 + 1), .int (x3 + 1)]) (rest := []) (la := [.ref 94, .int 1, .int 2, .int (x2 + 1), .int (x3 + 1), .retAddr 0]) dX9_enemyBody_200 rfl rfl rfl rfl ⟨by decide, rfl⟩ (Nat.le_of_ble_eq_true rfl) rfl (Nat.le_of_ble_eq_true rfl)
  refine Eq.trans ?_ (if_neg c7).symm
  by_cases c8 : x1 = 17
  · refine Eq.trans ?_ (if_pos c8).symm
    refine (k_sw (Y := mX9_enemyBody) (t := 191) dX9_enemyBody_1 rfl ⟨rfl, rfl⟩ (by rw [c8]; rfl)).trans ?_
    refine (q_blk (Y := mX9_enemyBody) (q_dcC dX9_enemyBody_191 (q_dcC dX9_enemyBody_192 (q_dcC dX9_enemyBody_193 (q_dcC dX9_enemyBody_194 (q_dcC dX9_enemyBody_195 (q_dcC dX9_enemyBody_196 (q_dcC dX9_enemyBody_197 (q_dcC dX9_enemyBody_198 (q_dcC dX9_enemyBody_199 q_dcN))))))))) (show _ = some (200, [.ref 94, .int x1, .int x2, .int x3], [.int (x3 + 1), .int (x2 + 1), .int 2, .int 1, .ref 94]) from rfl)).trans ?_
    exact K_calV (d := d) (Y := mX9_enemyBody) (Z := mX9_from) (vs := [.int 1, .int 2, .int (x2 + 1), .int (x3 + 1)]) (rest := []) (la := [.ref 94, .int 1, .int 2, .int (x2 + 1), .int (x3 + 1), .retAddr 0]) dX9_enemyBody_200 rfl rfl rfl rfl ⟨by decide, rfl⟩ (Nat.le_of_ble_eq_true rfl) rfl (Nat.le_of_ble_eq_true rfl)
  refine Eq.trans ?_ (if_neg c8).symm
  by_cases c9 : x1 = 18
  · refine Eq.trans ?_ (if_pos c9).symm
    refine (k_sw (Y := mX9_enemyBody) (t := 191) dX9_enemyBody_1 rfl ⟨rfl, rfl⟩ (by rw [c9]; rfl)).trans ?_
    refine (q_blk (Y := mX9_enemyBody) (q_dcC dX9_enemyBody_191 (q_dcC dX9_enemyBody_192 (q_dcC dX9_enemyBody_193 (q_dcC dX9_enemyBody_194 (q_dcC dX9_enemyBody_195 (q_dcC dX9_enemyBody_196 (q_dcC dX9_enemyBody_197 (q_dcC dX9_enemyBody_198 (q_dcC dX9_enemyBody_199 q_dcN))))))))) (show _ = some (200, [.ref 94, .int x1, .int x2, .int x3], [.int (x3 + 1), .int (x2 + 1), .int 2, .int 1, .ref 94]) from rfl)).trans ?_
    exact K_calV (d := d) (Y := mX9_enemyBody) (Z := mX9_from) (vs := [.int 1, .int 2, .int (x2 + 1), .int (x3 + 1)]) (rest := []) (la := [.ref 94, .int 1, .int 2, .int (x2 + 1), .int (x3 + 1), .retAddr 0]) dX9_enemyBody_200 rfl rfl rfl rfl ⟨by decide, rfl⟩ (Nat.le_of_ble_eq_true rfl) rfl (Nat.le_of_ble_eq_true rfl)
  refine Eq.trans ?_ (if_neg c9).symm
  by_cases c10 : x1 = 19
  · refine Eq.trans ?_ (if_pos c10).symm
    refine (k_sw (Y := mX9_enemyBody) (t := 191) dX9_enemyBody_1 rfl ⟨rfl, rfl⟩ (by rw [c10]; rfl)).trans ?_
    refine (q_blk (Y := mX9_enemyBody) (q_dcC dX9_enemyBody_191 (q_dcC dX9_enemyBody_192 (q_dcC dX9_enemyBody_193 (q_dcC dX9_enemyBody_194 (q_dcC dX9_enemyBody_195 (q_dcC dX9_enemyBody_196 (q_dcC dX9_enemyBody_197 (q_dcC dX9_enemyBody_198 (q_dcC dX9_enemyBody_199 q_dcN))))))))) (show _ = some (200, [.ref 94, .int x1, .int x2, .int x3], [.int (x3 + 1), .int (x2 + 1), .int 2, .int 1, .ref 94]) from rfl)).trans ?_
    exact K_calV (d := d) (Y := mX9_enemyBody) (Z := mX9_from) (vs := [.int 1, .int 2, .int (x2 + 1), .int (x3 + 1)]) (rest := []) (la := [.ref 94, .int 1, .int 2, .int (x2 + 1), .int (x3 + 1), .retAddr 0]) dX9_enemyBody_200 rfl rfl rfl rfl ⟨by decide, rfl⟩ (Nat.le_of_ble_eq_true rfl) rfl (Nat.le_of_ble_eq_true rfl)
  refine Eq.trans ?_ (if_neg c10).symm
  by_cases c11 : x1 = 20
  · refine Eq.trans ?_ (if_pos c11).symm
    refine (k_sw (Y := mX9_enemyBody) (t := 146) dX9_enemyBody_1 rfl ⟨rfl, rfl⟩ (by rw [c11]; rfl)).trans ?_
    refine (q_blk (Y := mX9_enemyBody) (q_dcC dX9_enemyBody_146 (q_dcC dX9_enemyBody_147 (q_dcC dX9_enemyBody_148 (q_dcC dX9_enemyBody_149 (q_dcC dX9_enemyBody_150 (q_dcC dX9_enemyBody_151 (q_dcC dX9_enemyBody_152 q_dcN))))))) (show _ = some (153, [.ref 94, .int x1, .int x2, .int x3], [.int (x3 + 1), .int x2, .int 1, .int 0, .ref 94]) from rfl)).trans ?_
    exact K_calV (d := d) (Y := mX9_enemyBody) (Z := mX9_from) (vs := [.int 0, .int 1, .int x2, .int (x3 + 1)]) (rest := []) (la := [.ref 94, .int 0, .int 1, .int x2, .int (x3 + 1), .retAddr 0]) dX9_enemyBody_153 rfl rfl rfl rfl ⟨by decide, rfl⟩ (Nat.le_of_ble_eq_true rfl) rfl (Nat.le_of_ble_eq_true rfl)
  refine Eq.trans ?_ (if_neg c11).symm
  by_cases c12 : x1 = 21
  · refine Eq.trans ?_ (if_pos c12).symm
    refine (k_sw (Y := mX9_enemyBody) (t := 162) dX9_enemyBody_1 rfl ⟨rfl, rfl⟩ (by rw [c12]; rfl)).trans ?_
    refine (q_blk (Y := mX9_enemyBody) (q_dcC dX9_enemyBody_162 (q_dcC dX9_enemyBody_163 (q_dcC dX9_enemyBody_164 (q_dcC dX9_enemyBody_165 (q_dcC dX9_enemyBody_166 (q_dcC dX9_enemyBody_167 (q_dcC dX9_enemyBody_168 (q_dcC dX9_enemyBody_169 q_dcN)))))))) (show _ = some (170, [.ref 94, .int x1, .int x2, .int x3], [.int (x3 + 1), .int x2, .int 3, .int 0, .ref 94, .int 0]) from rfl)).trans ?_
    exact K_calV (d := d) (Y := mX9_enemyBody) (Z := mX9_from) (vs := [.int 0, .int 3, .int x2, .int (x3 + 1)]) (rest := [.int 0]) (la := [.ref 94, .int 0, .int 3, .int x2, .int (x3 + 1), .retAddr 0]) dX9_enemyBody_170 rfl rfl rfl rfl ⟨by decide, rfl⟩ (Nat.le_of_ble_eq_true rfl) rfl (Nat.le_of_ble_eq_true rfl)
  refine Eq.trans ?_ (if_neg c12).symm
  by_cases c13 : x1 = 22
  · refine Eq.trans ?_ (if_pos c13).symm
    refine (k_sw (Y := mX9_enemyBody) (t := 191) dX9_enemyBody_1 rfl ⟨rfl, rfl⟩ (by rw [c13]; rfl)).trans ?_
    refine (q_blk (Y := mX9_enemyBody) (q_dcC dX9_enemyBody_191 (q_dcC dX9_enemyBody_192 (q_dcC dX9_enemyBody_193 (q_dcC dX9_enemyBody_194 (q_dcC dX9_enemyBody_195 (q_dcC dX9_enemyBody_196 (q_dcC dX9_enemyBody_197 (q_dcC dX9_enemyBody_198 (q_dcC dX9_enemyBody_199 q_dcN))))))))) (show _ = some (200, [.ref 94, .int x1, .int x2, .int x3], [.int (x3 + 1), .int (x2 + 1), .int 2, .int 1, .ref 94]) from rfl)).trans ?_
    exact K_calV (d := d) (Y := mX9_enemyBody) (Z := mX9_from) (vs := [.int 1, .int 2, .int (x2 + 1), .int (x3 + 1)]) (rest := []) (la := [.ref 94, .int 1, .int 2, .int (x2 + 1), .int (x3 + 1), .retAddr 0]) dX9_enemyBody_200 rfl rfl rfl rfl ⟨by decide, rfl⟩ (Nat.le_of_ble_eq_true rfl) rfl (Nat.le_of_ble_eq_true rfl)
  refine Eq.trans ?_ (if_neg c13).symm
  by_cases c14 : x1 = 23
  · refine Eq.trans ?_ (if_pos c14).symm
    refine (k_sw (Y := mX9_enemyBody) (t := 191) dX9_enemyBody_1 rfl ⟨rfl, rfl⟩ (by rw [c14]; rfl)).trans ?_
    refine (q_blk (Y := mX9_enemyBody) (q_dcC dX9_enemyBody_191 (q_dcC dX9_enemyBody_192 (q_dcC dX9_enemyBody_193 (q_dcC dX9_enemyBody_194 (q_dcC dX9_enemyBody_195 (q_dcC dX9_enemyBody_196 (q_dcC dX9_enemyBody_197 (q_dcC dX9_enemyBody_198 (q_dcC dX9_enemyBody_199 q_dcN))))))))) (show _ = some (200, [.ref 94, .int x1, .int x2, .int x3], [.int (x3 + 1), .int (x2 + 1), .int 2, .int 1, .ref 94]) from rfl)).trans ?_
    exact K_calV (d := d) (Y := mX9_enemyBody) (Z := mX9_from) (vs := [.int 1, .int 2, .int (x2 + 1), .int (x3 + 1)]) (rest := []) (la := [.ref 94, .int 1, .int 2, .int (x2 + 1), .int (x3 + 1), .retAddr 0]) dX9_enemyBody_200 rfl rfl rfl rfl ⟨by decide, rfl⟩ (Nat.le_of_ble_eq_true rfl) rfl (Nat.le_of_ble_eq_true rfl)
  refine Eq.trans ?_ (if_neg c14).symm
  by_cases c15 : x1 = 24
  · refine Eq.trans ?_ (if_pos c15).symm
    refine (k_sw (Y := mX9_enemyBody) (t := 191) dX9_enemyBody_1 rfl ⟨rfl, rfl⟩ (by rw [c15]; rfl)).trans ?_
    refine (q_blk (Y := mX9_enemyBody) (q_dcC dX9_enemyBody_191 (q_dcC dX9_enemyBody_192 (q_dcC dX9_enemyBody_193 (q_dcC dX9_enemyBody_194 (q_dcC dX9_enemyBody_195 (q_dcC dX9_enemyBody_196 (q_dcC dX9_enemyBody_197 (q_dcC dX9_enemyBody_198 (q_dcC dX9_enemyBody_199 q_dcN))))))))) (show _ = some (200, [.ref 94, .int x1, .int x2, .int x3], [.int (x3 + 1), .int (x2 + 1), .int 2, .int 1, .ref 94]) from rfl)).trans ?_
    exact K_calV (d := d) (Y := mX9_enemyBody) (Z := mX9_from) (vs := [.int 1, .int 2, .int (x2 + 1), .int (x3 + 1)]) (rest := []) (la := [.ref 94, .int 1, .int 2, .int (x2 + 1), .int (x3 + 1), .retAddr 0]) dX9_enemyBody_200 rfl rfl rfl rfl ⟨by decide, rfl⟩ (Nat.le_of_ble_eq_true rfl) rfl (Nat.le_of_ble_eq_true rfl)
  refine Eq.trans ?_ (if_neg c15).symm
  by_cases c16 : x1 = 25
  · refine Eq.trans ?_ (if_pos c16).symm
    refine (k_sw (Y := mX9_enemyBody) (t := 191) dX9_enemyBody_1 rfl ⟨rfl, rfl⟩ (by rw [c16]; rfl)).trans ?_
    refine (q_blk (Y := mX9_enemyBody) (q_dcC dX9_enemyBody_191 (q_dcC dX9_enemyBody_192 (q_dcC dX9_enemyBody_193 (q_dcC dX9_enemyBody_194 (q_dcC dX9_enemyBody_195 (q_dcC dX9_enemyBody_196 (q_dcC dX9_enemyBody_197 (q_dcC dX9_enemyBody_198 (q_dcC dX9_enemyBody_199 q_dcN))))))))) (show _ = some (200, [.ref 94, .int x1, .int x2, .int x3], [.int (x3 + 1), .int (x2 + 1), .int 2, .int 1, .ref 94]) from rfl)).trans ?_
    exact K_calV (d := d) (Y := mX9_enemyBody) (Z := mX9_from) (vs := [.int 1, .int 2, .int (x2 + 1), .int (x3 + 1)]) (rest := []) (la := [.ref 94, .int 1, .int 2, .int (x2 + 1), .int (x3 + 1), .retAddr 0]) dX9_enemyBody_200 rfl rfl rfl rfl ⟨by decide, rfl⟩ (Nat.le_of_ble_eq_true rfl) rfl (Nat.le_of_ble_eq_true rfl)
  refine Eq.trans ?_ (if_neg c16).symm
  by_cases c17 : x1 = 26
  · refine Eq.trans ?_ (if_pos c17).symm
    refine (k_sw (Y := mX9_enemyBody) (t := 191) dX9_enemyBody_1 rfl ⟨rfl, rfl⟩ (by rw [c17]; rfl)).trans ?_
    refine (q_blk (Y := mX9_enemyBody) (q_dcC dX9_enemyBody_191 (q_dcC dX9_enemyBody_192 (q_dcC dX9_enemyBody_193 (q_dcC dX9_enemyBody_194 (q_dcC dX9_enemyBody_195 (q_dcC dX9_enemyBody_196 (q_dcC dX9_enemyBody_197 (q_dcC dX9_enemyBody_198 (q_dcC dX9_enemyBody_199 q_dcN))))))))) (show _ = some (200, [.ref 94, .int x1, .int x2, .int x3], [.int (x3 + 1), .int (x2 + 1), .int 2, .int 1, .ref 94]) from rfl)).trans ?_
    exact K_calV (d := d) (Y := mX9_enemyBody) (Z := mX9_from) (vs := [.int 1, .int 2, .int (x2 + 1), .int (x3 + 1)]) (rest := []) (la := [.ref 94, .int 1, .int 2, .int (x2 + 1), .int (x3 + 1), .retAddr 0]) dX9_enemyBody_200 rfl rfl rfl rfl ⟨by decide, rfl⟩ (Nat.le_of_ble_eq_true rfl) rfl (Nat.le_of_ble_eq_true rfl)
  refine Eq.trans ?_ (if_neg c17).symm
  by_cases c18 : x1 = 27
  · refine Eq.trans ?_ (if_pos c18).symm
    refine (k_sw (Y := mX9_enemyBody) (t := 191) dX9_enemyBody_1 rfl ⟨rfl, rfl⟩ (by rw [c18]; rfl)).trans ?_
    refine (q_blk (Y := mX9_enemyBody) (q_dcC dX9_enemyBody_191 (q_dcC dX9_enemyBody_192 (q_dcC dX9_enemyBody_193 (q_dcC dX9_enemyBody_194 (q_dcC dX9_enemyBody_195 (q_dcC dX9_enemyBody_196 (q_dcC dX9_enemyBody_197 (q_dcC dX9_enemyBody_198 (q_dcC dX9_enemyBody_199 q_dcN))))))))) (show _ = some (200, [.ref 94, .int x1, .int x2, .int x3], [.int (x3 + 1), .int (x2 + 1), .int 2, .int 1, .ref 94]) from rfl)).trans ?_
    exact K_calV (d := d) (Y := mX9_enemyBody) (Z := mX9_from) (vs := [.int 1, .int 2, .int (x2 + 1), .int (x3 + 1)]) (rest := []) (la := [.ref 94, .int 1, .int 2, .int (x2 + 1), .int (x3 + 1), .retAddr 0]) dX9_enemyBody_200 rfl rfl rfl rfl ⟨by decide, rfl⟩ (Nat.le_of_ble_eq_true rfl) rfl (Nat.le_of_ble_eq_true rfl)
  refine Eq.trans ?_ (if_neg c18).symm
  by_cases c19 : x1 = 28
  · refine Eq.trans ?_ (if_pos c19).symm
    refine (k_sw (Y := mX9_enemyBody) (t := 191) dX9_enemyBody_1 rfl ⟨rfl, rfl⟩ (by rw [c19]; rfl)).trans ?_
    refine (q_blk (Y := mX9_enemyBody) (q_dcC dX9_enemyBody_191 (q_dcC dX9_enemyBody_192 (q_dcC dX9_enemyBody_193 (q_dcC dX9_enemyBody_194 (q_dcC dX9_enemyBody_195 (q_dcC dX9_enemyBody_196 (q_dcC dX9_enemyBody_197 (q_dcC dX9_enemyBody_198 (q_dcC dX9_enemyBody_199 q_dcN))))))))) (show _ = some (200, [.ref 94, .int x1, .int x2, .int x3], [.int (x3 + 1), .int (x2 + 1), .int 2, .int 1, .ref 94]) from rfl)).trans ?_
    exact K_calV (d := d) (Y := mX9_enemyBody) (Z := mX9_from) (vs := [.int 1, .int 2, .int (x2 + 1), .int (x3 + 1)]) (rest := []) (la := [.ref 94, .int 1, .int 2, .int (x2 + 1), .int (x3 + 1), .retAddr 0]) dX9_enemyBody_200 rfl rfl rfl rfl ⟨by decide, rfl⟩ (Nat.le_of_ble_eq_true rfl) rfl (Nat.le_of_ble_eq_true rfl)
  refine Eq.trans ?_ (if_neg c19).symm
  by_cases c20 : x1 = 29
  · refine Eq.trans ?_ (if_pos c20).symm
    refine (k_sw (Y := mX9_enemyBody) (t := 191) dX9_enemyBody_1 rfl ⟨rfl, rfl⟩ (by rw [c20]; rfl)).trans ?_
    refine (q_blk (Y := mX9_enemyBody) (q_dcC dX9_enemyBody_191 (q_dcC dX9_enemyBody_192 (q_dcC dX9_enemyBody_193 (q_dcC dX9_enemyBody_194 (q_dcC dX9_enemyBody_195 (q_dcC dX9_enemyBody_196 (q_dcC dX9_enemyBody_197 (q_dcC dX9_enemyBody_198 (q_dcC dX9_enemyBody_199 q_dcN))))))))) (show _ = some (200, [.ref 94, .int x1, .int x2, .int x3], [.int (x3 + 1), .int (x2 + 1), .int 2, .int 1, .ref 94]) from rfl)).trans ?_
    exact K_calV (d := d) (Y := mX9_enemyBody) (Z := mX9_from) (vs := [.int 1, .int 2, .int (x2 + 1), .int (x3 + 1)]) (rest := []) (la := [.ref 94, .int 1, .int 2, .int (x2 + 1), .int (x3 + 1), .retAddr 0]) dX9_enemyBody_200 rfl rfl rfl rfl ⟨by decide, rfl⟩ (Nat.le_of_ble_eq_true rfl) rfl (Nat.le_of_ble_eq_true rfl)
  refine Eq.trans ?_ (if_neg c20).symm
  by_cases c21 : x1 = 30
  · refine Eq.trans ?_ (if_pos c21).symm
    refine (k_sw (Y := mX9_enemyBody) (t := 175) dX9_enemyBody_1 rfl ⟨rfl, rfl⟩ (by rw [c21]; rfl)).trans ?_
    refine (q_blk (Y := mX9_enemyBody) (q_dcC dX9_enemyBody_175 (q_dcC dX9_enemyBody_176 (q_dcC dX9_enemyBody_177 (q_dcC dX9_enemyBody_178 (q_dcC dX9_enemyBody_179 (q_dcC dX9_enemyBody_180 (q_dcC dX9_enemyBody_181 q_dcN))))))) (show _ = some (182, [.ref 94, .int x1, .int x2, .int x3], [.int (x3 + 1), .int x2, .int 0, .int 1, .ref 94]) from rfl)).trans ?_
    exact K_calV (d := d) (Y := mX9_enemyBody) (Z := mX9_from) (vs := [.int 1, .int 0, .int x2, .int (x3 + 1)]) (rest := []) (la := [.ref 94, .int 1, .int 0, .int x2, .int (x3 + 1), .retAddr 0]) dX9_enemyBody_182 rfl rfl rfl rfl ⟨by decide, rfl⟩ (Nat.le_of_ble_eq_true rfl) rfl (Nat.le_of_ble_eq_true rfl)
  refine Eq.trans ?_ (if_neg c21).symm
  refine (k_swD (Y := mX9_enemyBody) (t := 191) dX9_enemyBody_1 (q_tso (x1) 10 21 (fun k hk => by rcases k with _ | _ | _ | _ | _ | _ | _ | _ | _ | _ | _ | _ | _ | _ | _ | _ | _ | _ | _ | _ | _ | k; exact c1; exact c2; exact c3; exact c4; exact c5; exact c6; exact c7; exact c8; exact c9; exact c10; exact c11; exact c12; exact c13; exact c14; exact c15; exact c16; exact c17; exact c18; exact c19; exact c20; exact c21; exact absurd hk (by omega))) rfl).trans ?_
  refine (q_blk (Y := mX9_enemyBody) (q_dcC dX9_enemyBody_191 (q_dcC dX9_enemyBody_192 (q_dcC dX9_enemyBody_193 (q_dcC dX9_enemyBody_194 (q_dcC dX9_enemyBody_195 (q_dcC dX9_enemyBody_196 (q_dcC dX9_enemyBody_197 (q_dcC dX9_enemyBody_198 (q_dcC dX9_enemyBody_199 q_dcN))))))))) (show _ = some (200, [.ref 94, .int x1, .int x2, .int x3], [.int (x3 + 1), .int (x2 + 1), .int 2, .int 1, .ref 94]) from rfl)).trans ?_
  exact K_calV (d := d) (Y := mX9_enemyBody) (Z := mX9_from) (vs := [.int 1, .int 2, .int (x2 + 1), .int (x3 + 1)]) (rest := []) (la := [.ref 94, .int 1, .int 2, .int (x2 + 1), .int (x3 + 1), .retAddr 0]) dX9_enemyBody_200 rfl rfl rfl rfl ⟨by decide, rfl⟩ (Nat.le_of_ble_eq_true rfl) rfl (Nat.le_of_ble_eq_true rfl)
theorem B_X9_enemyBody_114 {o : q_H} (d : Nat) (x1 x2 x3 y0 : Int32) (g : Nat → Nat → Int32) : q_sem (d) mX9_enemyBody 114 [.ref 94, .int x1, .int x2, .int x3] [.int y0] (q_K o g) = some (some (.int (y0 * 2)), q_K o g) := by
  refine (q_blk (Y := mX9_enemyBody) (q_dcC dX9_enemyBody_114 (q_dcC dX9_enemyBody_115 q_dcN)) (show _ = some (116, [.ref 94, .int x1, .int x2, .int x3], [.int (y0 * 2)]) from rfl)).trans ?_
  exact k_iret (Y := mX9_enemyBody) dX9_enemyBody_116 rfl
theorem B_X9_enemyBody_124 {o : q_H} (d : Nat) (x1 x2 x3 y0 : Int32) (g : Nat → Nat → Int32) : q_sem (d) mX9_enemyBody 124 [.ref 94, .int x1, .int x2, .int x3] [.int y0] (q_K o g) = some (some (.int (y0 - (g 94 3))), q_K o g) := by
  refine (q_blk (Y := mX9_enemyBody) (q_dcC dX9_enemyBody_124 q_dcN) (show _ = some (125, [.ref 94, .int x1, .int x2, .int x3], [.ref 94, .int y0]) from rfl)).trans ?_
  refine (k_geti (Y := mX9_enemyBody) dX9_enemyBody_125 rfl rfl ⟨by decide, rfl⟩ (by decide) rfl).trans ?_
  refine (q_blk (Y := mX9_enemyBody) (q_dcC dX9_enemyBody_128 q_dcN) (show _ = some (129, [.ref 94, .int x1, .int x2, .int x3], [.int (y0 - (g 94 3))]) from rfl)).trans ?_
  exact k_iret (Y := mX9_enemyBody) dX9_enemyBody_129 rfl
theorem B_X9_enemyBody_137 {o : q_H} (d : Nat) (x1 x2 x3 y0 : Int32) (g : Nat → Nat → Int32) : q_sem (d + 1) mX9_enemyBody 137 [.ref 94, .int x1, .int x2, .int x3] [.int y0] (q_K o g) = (q_sem d mX9_own 0 [.ref 94, .int 0, .int 1, .int x3] [] (q_K o g)).bind (fun r => q_sem (d + 1) mX9_enemyBody 144 [.ref 94, .int x1, .int x2, .int x3] (r.1.toList ++ [.int y0]) r.2) := by
  refine (q_blk (Y := mX9_enemyBody) (q_dcC dX9_enemyBody_137 (q_dcC dX9_enemyBody_138 (q_dcC dX9_enemyBody_139 (q_dcC dX9_enemyBody_140 q_dcN)))) (show _ = some (141, [.ref 94, .int x1, .int x2, .int x3], [.int x3, .int 1, .int 0, .ref 94, .int y0]) from rfl)).trans ?_
  exact K_calV (d := d) (Y := mX9_enemyBody) (Z := mX9_own) (vs := [.int 0, .int 1, .int x3]) (rest := [.int y0]) (la := [.ref 94, .int 0, .int 1, .int x3]) dX9_enemyBody_141 rfl rfl rfl rfl ⟨by decide, rfl⟩ (Nat.le_of_ble_eq_true rfl) rfl (Nat.le_of_ble_eq_true rfl)
theorem B_X9_enemyBody_203 {o : q_H} (d : Nat) (x1 x2 x3 y0 : Int32) (g : Nat → Nat → Int32) : q_sem (d) mX9_enemyBody 203 [.ref 94, .int x1, .int x2, .int x3] [.int y0] (q_K o g) = some (some (.int y0), q_K o g) := by
  exact k_iret (Y := mX9_enemyBody) dX9_enemyBody_203 rfl
theorem B_X9_enemyBody_156 {o : q_H} (d : Nat) (x1 x2 x3 y0 : Int32) (g : Nat → Nat → Int32) : q_sem (d) mX9_enemyBody 156 [.ref 94, .int x1, .int x2, .int x3] [.int y0] (q_K o g) = some (some (.int (y0 + (g 94 3))), q_K o g) := by
  refine (q_blk (Y := mX9_enemyBody) (q_dcC dX9_enemyBody_156 q_dcN) (show _ = some (157, [.ref 94, .int x1, .int x2, .int x3], [.ref 94, .int y0]) from rfl)).trans ?_
  refine (k_geti (Y := mX9_enemyBody) dX9_enemyBody_157 rfl rfl ⟨by decide, rfl⟩ (by decide) rfl).trans ?_
  refine (q_blk (Y := mX9_enemyBody) (q_dcC dX9_enemyBody_160 q_dcN) (show _ = some (161, [.ref 94, .int x1, .int x2, .int x3], [.int (y0 + (g 94 3))]) from rfl)).trans ?_
  exact k_iret (Y := mX9_enemyBody) dX9_enemyBody_161 rfl
theorem B_X9_enemyBody_173 {o : q_H} (d : Nat) (x1 x2 x3 y0 y1 : Int32) (g : Nat → Nat → Int32) : q_sem (d) mX9_enemyBody 173 [.ref 94, .int x1, .int x2, .int x3] [.int y0, .int y1] (q_K o g) = some (some (.int (y1 - y0)), q_K o g) := by
  refine (q_blk (Y := mX9_enemyBody) (q_dcC dX9_enemyBody_173 q_dcN) (show _ = some (174, [.ref 94, .int x1, .int x2, .int x3], [.int (y1 - y0)]) from rfl)).trans ?_
  exact k_iret (Y := mX9_enemyBody) dX9_enemyBody_174 rfl
theorem B_X9_enemyBody_185 {o : q_H} (d : Nat) (x1 x2 x3 y0 : Int32) (g : Nat → Nat → Int32) : q_sem (d) mX9_enemyBody 185 [.ref 94, .int x1, .int x2, .int x3] [.int y0] (q_K o g) = some (some (.int (y0 * (g 94 3))), q_K o g) := by
  refine (q_blk (Y := mX9_enemyBody) (q_dcC dX9_enemyBody_185 q_dcN) (show _ = some (186, [.ref 94, .int x1, .int x2, .int x3], [.ref 94, .int y0]) from rfl)).trans ?_
  refine (k_geti (Y := mX9_enemyBody) dX9_enemyBody_186 rfl rfl ⟨by decide, rfl⟩ (by decide) rfl).trans ?_
  refine (q_blk (Y := mX9_enemyBody) (q_dcC dX9_enemyBody_189 q_dcN) (show _ = some (190, [.ref 94, .int x1, .int x2, .int x3], [.int (y0 * (g 94 3))]) from rfl)).trans ?_
  exact k_iret (Y := mX9_enemyBody) dX9_enemyBody_190 rfl
theorem B_X9_enemyBody_144 {o : q_H} (d : Nat) (x1 x2 x3 y0 y1 : Int32) (g : Nat → Nat → Int32) : q_sem (d) mX9_enemyBody 144 [.ref 94, .int x1, .int x2, .int x3] [.int y0, .int y1] (q_K o g) = some (some (.int (y1 + y0)), q_K o g) := by
  refine (q_blk (Y := mX9_enemyBody) (q_dcC dX9_enemyBody_144 q_dcN) (show _ = some (145, [.ref 94, .int x1, .int x2, .int x3], [.int (y1 + y0)]) from rfl)).trans ?_
  exact k_iret (Y := mX9_enemyBody) dX9_enemyBody_145 rfl
theorem B_X9_friendBody_0 {o : q_H} (d : Nat) (x1 x2 x3 : Int32) (g : Nat → Nat → Int32) : q_sem (d + 1) mX9_friendBody 0 [.ref 94, .int x1, .int x2, .int x3] [] (q_K o g) = (if x1 = 40 then (q_sem d mX9_own 0 [.ref 94, .int 0, .int x2, .int x3] [] (q_K o g)).bind (fun r => q_sem (d + 1) mX9_friendBody 51 [.ref 94, .int x1, .int x2, .int x3] (r.1.toList ++ []) r.2) else (if x1 = 50 then (q_sem d mX9_from 0 [.ref 94, .int 3, .int 0, .int (x2 - 1), .int (x3 + 1), .retAddr 0] [] (q_K o g)).bind (fun r => q_sem (d + 1) mX9_friendBody 75 [.ref 94, .int x1, .int x2, .int x3] (r.1.toList ++ []) r.2) else (if x1 = 51 then (q_sem d mX9_from 0 [.ref 94, .int 3, .int 3, .int x2, .int (x3 + 1), .retAddr 0] [] (q_K o g)).bind (fun r => q_sem (d + 1) mX9_friendBody 86 [.ref 94, .int x1, .int x2, .int x3] (r.1.toList ++ []) r.2) else (if x1 = 60 then (q_sem d mX9_from 0 [.ref 94, .int 4, .int 1, .int x2, .int (x3 + 1), .retAddr 0] [] (q_K o g)).bind (fun r => q_sem (d + 1) mX9_friendBody 108 [.ref 94, .int x1, .int x2, .int x3] (r.1.toList ++ []) r.2) else (q_sem d mX9_from 0 [.ref 94, .int 4, .int 2, .int x2, .int (x3 + 1), .retAddr 0] [] (q_K o g)).bind (fun r => q_sem (d + 1) mX9_friendBody 130 [.ref 94, .int x1, .int x2, .int x3] (r.1.toList ++ []) r.2))))) := by
  refine (q_blk (Y := mX9_friendBody) (q_dcC dX9_friendBody_0 q_dcN) (show _ = some (1, [.ref 94, .int x1, .int x2, .int x3], [.int x1]) from rfl)).trans ?_
  by_cases c1 : x1 = 40
  · refine Eq.trans ?_ (if_pos c1).symm
    refine (k_sw (Y := mX9_friendBody) (t := 44) dX9_friendBody_1 rfl ⟨rfl, rfl⟩ (by rw [c1]; rfl)).trans ?_
    refine (q_blk (Y := mX9_friendBody) (q_dcC dX9_friendBody_44 (q_dcC dX9_friendBody_45 (q_dcC dX9_friendBody_46 (q_dcC dX9_friendBody_47 q_dcN)))) (show _ = some (48, [.ref 94, .int x1, .int x2, .int x3], [.int x3, .int x2, .int 0, .ref 94]) from rfl)).trans ?_
    exact K_calV (d := d) (Y := mX9_friendBody) (Z := mX9_own) (vs := [.int 0, .int x2, .int x3]) (rest := []) (la := [.ref 94, .int 0, .int x2, .int x3]) dX9_friendBody_48 rfl rfl rfl rfl ⟨by decide, rfl⟩ (Nat.le_of_ble_eq_true rfl) rfl (Nat.le_of_ble_eq_true rfl)
  refine Eq.trans ?_ (if_neg c1).symm
  by_cases c2 : x1 = 50
  · refine Eq.trans ?_ (if_pos c2).symm
    refine (k_sw (Y := mX9_friendBody) (t := 63) dX9_friendBody_1 rfl ⟨rfl, rfl⟩ (by rw [c2]; rfl)).trans ?_
    refine (q_blk (Y := mX9_friendBody) (q_dcC dX9_friendBody_63 (q_dcC dX9_friendBody_64 (q_dcC dX9_friendBody_65 (q_dcC dX9_friendBody_66 (q_dcC dX9_friendBody_67 (q_dcC dX9_friendBody_68 (q_dcC dX9_friendBody_69 (q_dcC dX9_friendBody_70 (q_dcC dX9_friendBody_71 q_dcN))))))))) (show _ = some (72, [.ref 94, .int x1, .int x2, .int x3], [.int (x3 + 1), .int (x2 - 1), .int 0, .int 3, .ref 94]) from rfl)).trans ?_
    exact K_calV (d := d) (Y := mX9_friendBody) (Z := mX9_from) (vs := [.int 3, .int 0, .int (x2 - 1), .int (x3 + 1)]) (rest := []) (la := [.ref 94, .int 3, .int 0, .int (x2 - 1), .int (x3 + 1), .retAddr 0]) dX9_friendBody_72 rfl rfl rfl rfl ⟨by decide, rfl⟩ (Nat.le_of_ble_eq_true rfl) rfl (Nat.le_of_ble_eq_true rfl)
  refine Eq.trans ?_ (if_neg c2).symm
  by_cases c3 : x1 = 51
  · refine Eq.trans ?_ (if_pos c3).symm
    refine (k_sw (Y := mX9_friendBody) (t := 76) dX9_friendBody_1 rfl ⟨rfl, rfl⟩ (by rw [c3]; rfl)).trans ?_
    refine (q_blk (Y := mX9_friendBody) (q_dcC dX9_friendBody_76 (q_dcC dX9_friendBody_77 (q_dcC dX9_friendBody_78 (q_dcC dX9_friendBody_79 (q_dcC dX9_friendBody_80 (q_dcC dX9_friendBody_81 (q_dcC dX9_friendBody_82 q_dcN))))))) (show _ = some (83, [.ref 94, .int x1, .int x2, .int x3], [.int (x3 + 1), .int x2, .int 3, .int 3, .ref 94]) from rfl)).trans ?_
    exact K_calV (d := d) (Y := mX9_friendBody) (Z := mX9_from) (vs := [.int 3, .int 3, .int x2, .int (x3 + 1)]) (rest := []) (la := [.ref 94, .int 3, .int 3, .int x2, .int (x3 + 1), .retAddr 0]) dX9_friendBody_83 rfl rfl rfl rfl ⟨by decide, rfl⟩ (Nat.le_of_ble_eq_true rfl) rfl (Nat.le_of_ble_eq_true rfl)
  refine Eq.trans ?_ (if_neg c3).symm
  by_cases c4 : x1 = 60
  · refine Eq.trans ?_ (if_pos c4).symm
    refine (k_sw (Y := mX9_friendBody) (t := 98) dX9_friendBody_1 rfl ⟨rfl, rfl⟩ (by rw [c4]; rfl)).trans ?_
    refine (q_blk (Y := mX9_friendBody) (q_dcC dX9_friendBody_98 (q_dcC dX9_friendBody_99 (q_dcC dX9_friendBody_100 (q_dcC dX9_friendBody_101 (q_dcC dX9_friendBody_102 (q_dcC dX9_friendBody_103 (q_dcC dX9_friendBody_104 q_dcN))))))) (show _ = some (105, [.ref 94, .int x1, .int x2, .int x3], [.int (x3 + 1), .int x2, .int 1, .int 4, .ref 94]) from rfl)).trans ?_
    exact K_calV (d := d) (Y := mX9_friendBody) (Z := mX9_from) (vs := [.int 4, .int 1, .int x2, .int (x3 + 1)]) (rest := []) (la := [.ref 94, .int 4, .int 1, .int x2, .int (x3 + 1), .retAddr 0]) dX9_friendBody_105 rfl rfl rfl rfl ⟨by decide, rfl⟩ (Nat.le_of_ble_eq_true rfl) rfl (Nat.le_of_ble_eq_true rfl)
  refine Eq.trans ?_ (if_neg c4).symm
  refine (k_lsD (Y := mX9_friendBody) (t := 120) dX9_friendBody_1 (by rfl) (q_lso (v := x1) (by intro q hq; simp only [List.mem_cons, List.not_mem_nil, or_false] at hq; rcases hq with rfl | rfl | rfl | rfl; exact c1; exact c2; exact c3; exact c4)) rfl).trans ?_
  refine (q_blk (Y := mX9_friendBody) (q_dcC dX9_friendBody_120 (q_dcC dX9_friendBody_121 (q_dcC dX9_friendBody_122 (q_dcC dX9_friendBody_123 (q_dcC dX9_friendBody_124 (q_dcC dX9_friendBody_125 (q_dcC dX9_friendBody_126 q_dcN))))))) (show _ = some (127, [.ref 94, .int x1, .int x2, .int x3], [.int (x3 + 1), .int x2, .int 2, .int 4, .ref 94]) from rfl)).trans ?_
  exact K_calV (d := d) (Y := mX9_friendBody) (Z := mX9_from) (vs := [.int 4, .int 2, .int x2, .int (x3 + 1)]) (rest := []) (la := [.ref 94, .int 4, .int 2, .int x2, .int (x3 + 1), .retAddr 0]) dX9_friendBody_127 rfl rfl rfl rfl ⟨by decide, rfl⟩ (Nat.le_of_ble_eq_true rfl) rfl (Nat.le_of_ble_eq_true rfl)
theorem B_X9_friendBody_51 {o : q_H} (d : Nat) (x1 x2 x3 y0 : Int32) (g : Nat → Nat → Int32) : q_sem (d + 1) mX9_friendBody 51 [.ref 94, .int x1, .int x2, .int x3] [.int y0] (q_K o g) = (q_sem d mX9_from 0 [.ref 94, .int 0, .int 2, .int x2, .int (x3 + 1), .retAddr 0] [] (q_K o g)).bind (fun r => q_sem (d + 1) mX9_friendBody 61 [.ref 94, .int x1, .int x2, .int x3] (r.1.toList ++ [.int y0]) r.2) := by
  refine (q_blk (Y := mX9_friendBody) (q_dcC dX9_friendBody_51 (q_dcC dX9_friendBody_52 (q_dcC dX9_friendBody_53 (q_dcC dX9_friendBody_54 (q_dcC dX9_friendBody_55 (q_dcC dX9_friendBody_56 (q_dcC dX9_friendBody_57 q_dcN))))))) (show _ = some (58, [.ref 94, .int x1, .int x2, .int x3], [.int (x3 + 1), .int x2, .int 2, .int 0, .ref 94, .int y0]) from rfl)).trans ?_
  exact K_calV (d := d) (Y := mX9_friendBody) (Z := mX9_from) (vs := [.int 0, .int 2, .int x2, .int (x3 + 1)]) (rest := [.int y0]) (la := [.ref 94, .int 0, .int 2, .int x2, .int (x3 + 1), .retAddr 0]) dX9_friendBody_58 rfl rfl rfl rfl ⟨by decide, rfl⟩ (Nat.le_of_ble_eq_true rfl) rfl (Nat.le_of_ble_eq_true rfl)
theorem B_X9_friendBody_75 {o : q_H} (d : Nat) (x1 x2 x3 y0 : Int32) (g : Nat → Nat → Int32) : q_sem (d) mX9_friendBody 75 [.ref 94, .int x1, .int x2, .int x3] [.int y0] (q_K o g) = some (some (.int y0), q_K o g) := by
  exact k_iret (Y := mX9_friendBody) dX9_friendBody_75 rfl
theorem B_X9_friendBody_86 {o : q_H} (d : Nat) (x1 x2 x3 y0 : Int32) (g : Nat → Nat → Int32) : q_sem (d + 1) mX9_friendBody 86 [.ref 94, .int x1, .int x2, .int x3] [.int y0] (q_K o g) = (q_sem d mX9_own 0 [.ref 94, .int 2, .int (g 94 2), .int x3] [] (q_K o g)).bind (fun r => q_sem (d + 1) mX9_friendBody 96 [.ref 94, .int x1, .int x2, .int x3] (r.1.toList ++ [.int y0]) r.2) := by
  refine (q_blk (Y := mX9_friendBody) (q_dcC dX9_friendBody_86 (q_dcC dX9_friendBody_87 (q_dcC dX9_friendBody_88 q_dcN))) (show _ = some (89, [.ref 94, .int x1, .int x2, .int x3], [.ref 94, .int 2, .ref 94, .int y0]) from rfl)).trans ?_
  refine (k_geti (Y := mX9_friendBody) dX9_friendBody_89 rfl rfl ⟨by decide, rfl⟩ (by decide) rfl).trans ?_
  refine (q_blk (Y := mX9_friendBody) (q_dcC dX9_friendBody_92 q_dcN) (show _ = some (93, [.ref 94, .int x1, .int x2, .int x3], [.int x3, .int (g 94 2), .int 2, .ref 94, .int y0]) from rfl)).trans ?_
  exact K_calV (d := d) (Y := mX9_friendBody) (Z := mX9_own) (vs := [.int 2, .int (g 94 2), .int x3]) (rest := [.int y0]) (la := [.ref 94, .int 2, .int (g 94 2), .int x3]) dX9_friendBody_93 rfl rfl rfl rfl ⟨by decide, rfl⟩ (Nat.le_of_ble_eq_true rfl) rfl (Nat.le_of_ble_eq_true rfl)
theorem B_X9_friendBody_108 {o : q_H} (d : Nat) (x1 x2 x3 y0 : Int32) (g : Nat → Nat → Int32) : q_sem (d + 1) mX9_friendBody 108 [.ref 94, .int x1, .int x2, .int x3] [.int y0] (q_K o g) = (q_sem d mX9_from 0 [.ref 94, .int 4, .int 0, .int x2, .int (x3 + 1), .retAddr 0] [] (q_K o g)).bind (fun r => q_sem (d + 1) mX9_friendBody 118 [.ref 94, .int x1, .int x2, .int x3] (r.1.toList ++ [.int y0]) r.2) := by
  refine (q_blk (Y := mX9_friendBody) (q_dcC dX9_friendBody_108 (q_dcC dX9_friendBody_109 (q_dcC dX9_friendBody_110 (q_dcC dX9_friendBody_111 (q_dcC dX9_friendBody_112 (q_dcC dX9_friendBody_113 (q_dcC dX9_friendBody_114 q_dcN))))))) (show _ = some (115, [.ref 94, .int x1, .int x2, .int x3], [.int (x3 + 1), .int x2, .int 0, .int 4, .ref 94, .int y0]) from rfl)).trans ?_
  exact K_calV (d := d) (Y := mX9_friendBody) (Z := mX9_from) (vs := [.int 4, .int 0, .int x2, .int (x3 + 1)]) (rest := [.int y0]) (la := [.ref 94, .int 4, .int 0, .int x2, .int (x3 + 1), .retAddr 0]) dX9_friendBody_115 rfl rfl rfl rfl ⟨by decide, rfl⟩ (Nat.le_of_ble_eq_true rfl) rfl (Nat.le_of_ble_eq_true rfl)
theorem B_X9_friendBody_130 {o : q_H} (d : Nat) (x1 x2 x3 y0 : Int32) (g : Nat → Nat → Int32) : q_sem (d) mX9_friendBody 130 [.ref 94, .int x1, .int x2, .int x3] [.int y0] (q_K o g) = some (some (.int (y0 * 3)), q_K o g) := by
  refine (q_blk (Y := mX9_friendBody) (q_dcC dX9_friendBody_130 (q_dcC dX9_friendBody_131 q_dcN)) (show _ = some (132, [.ref 94, .int x1, .int x2, .int x3], [.int (y0 * 3)]) from rfl)).trans ?_
  exact k_iret (Y := mX9_friendBody) dX9_friendBody_132 rfl
theorem B_X9_friendBody_61 {o : q_H} (d : Nat) (x1 x2 x3 y0 y1 : Int32) (g : Nat → Nat → Int32) : q_sem (d) mX9_friendBody 61 [.ref 94, .int x1, .int x2, .int x3] [.int y0, .int y1] (q_K o g) = some (some (.int (y1 ^^^ y0)), q_K o g) := by
  refine (q_blk (Y := mX9_friendBody) (q_dcC dX9_friendBody_61 q_dcN) (show _ = some (62, [.ref 94, .int x1, .int x2, .int x3], [.int (y1 ^^^ y0)]) from rfl)).trans ?_
  exact k_iret (Y := mX9_friendBody) dX9_friendBody_62 rfl
theorem B_X9_friendBody_96 {o : q_H} (d : Nat) (x1 x2 x3 y0 y1 : Int32) (g : Nat → Nat → Int32) : q_sem (d) mX9_friendBody 96 [.ref 94, .int x1, .int x2, .int x3] [.int y0, .int y1] (q_K o g) = some (some (.int (y1 + y0)), q_K o g) := by
  refine (q_blk (Y := mX9_friendBody) (q_dcC dX9_friendBody_96 q_dcN) (show _ = some (97, [.ref 94, .int x1, .int x2, .int x3], [.int (y1 + y0)]) from rfl)).trans ?_
  exact k_iret (Y := mX9_friendBody) dX9_friendBody_97 rfl
theorem B_X9_friendBody_118 {o : q_H} (d : Nat) (x1 x2 x3 y0 y1 : Int32) (g : Nat → Nat → Int32) : q_sem (d) mX9_friendBody 118 [.ref 94, .int x1, .int x2, .int x3] [.int y0, .int y1] (q_K o g) = some (some (.int (y1 - y0)), q_K o g) := by
  refine (q_blk (Y := mX9_friendBody) (q_dcC dX9_friendBody_118 q_dcN) (show _ = some (119, [.ref 94, .int x1, .int x2, .int x3], [.int (y1 - y0)]) from rfl)).trans ?_
  exact k_iret (Y := mX9_friendBody) dX9_friendBody_119 rfl
theorem B_J6_bitCount_0f7a4_0 {o : q_H} (d : Nat) (x0 : Int32) (g : Nat → Nat → Int32) : q_sem (d) mJ6_bitCount_0f7a4 0 [.int x0] [] (q_K o g) = some (some (.int ((((((((x0 - (((x0 : Int32).toUInt32 >>> ((1 : Int32).toUInt32 &&& Int32.toUInt32 31)).toInt32 &&& 1431655765)) &&& 858993459) + ((((x0 - (((x0 : Int32).toUInt32 >>> ((1 : Int32).toUInt32 &&& Int32.toUInt32 31)).toInt32 &&& 1431655765)) : Int32).toUInt32 >>> ((2 : Int32).toUInt32 &&& Int32.toUInt32 31)).toInt32 &&& 858993459)) + (((((x0 - (((x0 : Int32).toUInt32 >>> ((1 : Int32).toUInt32 &&& Int32.toUInt32 31)).toInt32 &&& 1431655765)) &&& 858993459) + ((((x0 - (((x0 : Int32).toUInt32 >>> ((1 : Int32).toUInt32 &&& Int32.toUInt32 31)).toInt32 &&& 1431655765)) : Int32).toUInt32 >>> ((2 : Int32).toUInt32 &&& Int32.toUInt32 31)).toInt32 &&& 858993459)) : Int32).toUInt32 >>> ((4 : Int32).toUInt32 &&& Int32.toUInt32 31)).toInt32) &&& 252645135) + (((((((x0 - (((x0 : Int32).toUInt32 >>> ((1 : Int32).toUInt32 &&& Int32.toUInt32 31)).toInt32 &&& 1431655765)) &&& 858993459) + ((((x0 - (((x0 : Int32).toUInt32 >>> ((1 : Int32).toUInt32 &&& Int32.toUInt32 31)).toInt32 &&& 1431655765)) : Int32).toUInt32 >>> ((2 : Int32).toUInt32 &&& Int32.toUInt32 31)).toInt32 &&& 858993459)) + (((((x0 - (((x0 : Int32).toUInt32 >>> ((1 : Int32).toUInt32 &&& Int32.toUInt32 31)).toInt32 &&& 1431655765)) &&& 858993459) + ((((x0 - (((x0 : Int32).toUInt32 >>> ((1 : Int32).toUInt32 &&& Int32.toUInt32 31)).toInt32 &&& 1431655765)) : Int32).toUInt32 >>> ((2 : Int32).toUInt32 &&& Int32.toUInt32 31)).toInt32 &&& 858993459)) : Int32).toUInt32 >>> ((4 : Int32).toUInt32 &&& Int32.toUInt32 31)).toInt32) &&& 252645135) : Int32).toUInt32 >>> ((8 : Int32).toUInt32 &&& Int32.toUInt32 31)).toInt32) + ((((((((x0 - (((x0 : Int32).toUInt32 >>> ((1 : Int32).toUInt32 &&& Int32.toUInt32 31)).toInt32 &&& 1431655765)) &&& 858993459) + ((((x0 - (((x0 : Int32).toUInt32 >>> ((1 : Int32).toUInt32 &&& Int32.toUInt32 31)).toInt32 &&& 1431655765)) : Int32).toUInt32 >>> ((2 : Int32).toUInt32 &&& Int32.toUInt32 31)).toInt32 &&& 858993459)) + (((((x0 - (((x0 : Int32).toUInt32 >>> ((1 : Int32).toUInt32 &&& Int32.toUInt32 31)).toInt32 &&& 1431655765)) &&& 858993459) + ((((x0 - (((x0 : Int32).toUInt32 >>> ((1 : Int32).toUInt32 &&& Int32.toUInt32 31)).toInt32 &&& 1431655765)) : Int32).toUInt32 >>> ((2 : Int32).toUInt32 &&& Int32.toUInt32 31)).toInt32 &&& 858993459)) : Int32).toUInt32 >>> ((4 : Int32).toUInt32 &&& Int32.toUInt32 31)).toInt32) &&& 252645135) + (((((((x0 - (((x0 : Int32).toUInt32 >>> ((1 : Int32).toUInt32 &&& Int32.toUInt32 31)).toInt32 &&& 1431655765)) &&& 858993459) + ((((x0 - (((x0 : Int32).toUInt32 >>> ((1 : Int32).toUInt32 &&& Int32.toUInt32 31)).toInt32 &&& 1431655765)) : Int32).toUInt32 >>> ((2 : Int32).toUInt32 &&& Int32.toUInt32 31)).toInt32 &&& 858993459)) + (((((x0 - (((x0 : Int32).toUInt32 >>> ((1 : Int32).toUInt32 &&& Int32.toUInt32 31)).toInt32 &&& 1431655765)) &&& 858993459) + ((((x0 - (((x0 : Int32).toUInt32 >>> ((1 : Int32).toUInt32 &&& Int32.toUInt32 31)).toInt32 &&& 1431655765)) : Int32).toUInt32 >>> ((2 : Int32).toUInt32 &&& Int32.toUInt32 31)).toInt32 &&& 858993459)) : Int32).toUInt32 >>> ((4 : Int32).toUInt32 &&& Int32.toUInt32 31)).toInt32) &&& 252645135) : Int32).toUInt32 >>> ((8 : Int32).toUInt32 &&& Int32.toUInt32 31)).toInt32) : Int32).toUInt32 >>> ((16 : Int32).toUInt32 &&& Int32.toUInt32 31)).toInt32) &&& 63)), q_K o g) := by
  refine (q_blk (Y := mJ6_bitCount_0f7a4) (q_dcC dJ6_bitCount_0f7a4_0 (q_dcC dJ6_bitCount_0f7a4_1 (q_dcC dJ6_bitCount_0f7a4_2 (q_dcC dJ6_bitCount_0f7a4_3 q_dcN)))) (show _ = some (4, [.int x0], [.int ((x0 : Int32).toUInt32 >>> ((1 : Int32).toUInt32 &&& Int32.toUInt32 31)).toInt32, .int x0]) from rfl)).trans ?_
  refine (k_ldcw (Y := mJ6_bitCount_0f7a4) (v := 1431655765) dJ6_bitCount_0f7a4_4 rfl).trans ?_
  refine (q_blk (Y := mJ6_bitCount_0f7a4) (q_dcC dJ6_bitCount_0f7a4_7 (q_dcC dJ6_bitCount_0f7a4_8 (q_dcC dJ6_bitCount_0f7a4_9 (q_dcC dJ6_bitCount_0f7a4_10 q_dcN)))) (show _ = some (11, [.int (x0 - (((x0 : Int32).toUInt32 >>> ((1 : Int32).toUInt32 &&& Int32.toUInt32 31)).toInt32 &&& 1431655765))], [.int (x0 - (((x0 : Int32).toUInt32 >>> ((1 : Int32).toUInt32 &&& Int32.toUInt32 31)).toInt32 &&& 1431655765))]) from rfl)).trans ?_
  refine (k_ldcw (Y := mJ6_bitCount_0f7a4) (v := 858993459) dJ6_bitCount_0f7a4_11 rfl).trans ?_
  refine (q_blk (Y := mJ6_bitCount_0f7a4) (q_dcC dJ6_bitCount_0f7a4_14 (q_dcC dJ6_bitCount_0f7a4_15 (q_dcC dJ6_bitCount_0f7a4_16 (q_dcC dJ6_bitCount_0f7a4_17 q_dcN)))) (show _ = some (18, [.int (x0 - (((x0 : Int32).toUInt32 >>> ((1 : Int32).toUInt32 &&& Int32.toUInt32 31)).toInt32 &&& 1431655765))], [.int (((x0 - (((x0 : Int32).toUInt32 >>> ((1 : Int32).toUInt32 &&& Int32.toUInt32 31)).toInt32 &&& 1431655765)) : Int32).toUInt32 >>> ((2 : Int32).toUInt32 &&& Int32.toUInt32 31)).toInt32, .int ((x0 - (((x0 : Int32).toUInt32 >>> ((1 : Int32).toUInt32 &&& Int32.toUInt32 31)).toInt32 &&& 1431655765)) &&& 858993459)]) from rfl)).trans ?_
  refine (k_ldcw (Y := mJ6_bitCount_0f7a4) (v := 858993459) dJ6_bitCount_0f7a4_18 rfl).trans ?_
  refine (q_blk (Y := mJ6_bitCount_0f7a4) (q_dcC dJ6_bitCount_0f7a4_21 (q_dcC dJ6_bitCount_0f7a4_22 (q_dcC dJ6_bitCount_0f7a4_23 (q_dcC dJ6_bitCount_0f7a4_24 (q_dcC dJ6_bitCount_0f7a4_25 (q_dcC dJ6_bitCount_0f7a4_26 (q_dcC dJ6_bitCount_0f7a4_27 (q_dcC dJ6_bitCount_0f7a4_28 q_dcN)))))))) (show _ = some (29, [.int (((x0 - (((x0 : Int32).toUInt32 >>> ((1 : Int32).toUInt32 &&& Int32.toUInt32 31)).toInt32 &&& 1431655765)) &&& 858993459) + ((((x0 - (((x0 : Int32).toUInt32 >>> ((1 : Int32).toUInt32 &&& Int32.toUInt32 31)).toInt32 &&& 1431655765)) : Int32).toUInt32 >>> ((2 : Int32).toUInt32 &&& Int32.toUInt32 31)).toInt32 &&& 858993459))], [.int ((((x0 - (((x0 : Int32).toUInt32 >>> ((1 : Int32).toUInt32 &&& Int32.toUInt32 31)).toInt32 &&& 1431655765)) &&& 858993459) + ((((x0 - (((x0 : Int32).toUInt32 >>> ((1 : Int32).toUInt32 &&& Int32.toUInt32 31)).toInt32 &&& 1431655765)) : Int32).toUInt32 >>> ((2 : Int32).toUInt32 &&& Int32.toUInt32 31)).toInt32 &&& 858993459)) + (((((x0 - (((x0 : Int32).toUInt32 >>> ((1 : Int32).toUInt32 &&& Int32.toUInt32 31)).toInt32 &&& 1431655765)) &&& 858993459) + ((((x0 - (((x0 : Int32).toUInt32 >>> ((1 : Int32).toUInt32 &&& Int32.toUInt32 31)).toInt32 &&& 1431655765)) : Int32).toUInt32 >>> ((2 : Int32).toUInt32 &&& Int32.toUInt32 31)).toInt32 &&& 858993459)) : Int32).toUInt32 >>> ((4 : Int32).toUInt32 &&& Int32.toUInt32 31)).toInt32)]) from rfl)).trans ?_
  refine (k_ldcw (Y := mJ6_bitCount_0f7a4) (v := 252645135) dJ6_bitCount_0f7a4_29 rfl).trans ?_
  refine (q_blk (Y := mJ6_bitCount_0f7a4) (q_dcC dJ6_bitCount_0f7a4_32 (q_dcC dJ6_bitCount_0f7a4_33 (q_dcC dJ6_bitCount_0f7a4_34 (q_dcC dJ6_bitCount_0f7a4_35 (q_dcC dJ6_bitCount_0f7a4_36 (q_dcC dJ6_bitCount_0f7a4_38 (q_dcC dJ6_bitCount_0f7a4_39 (q_dcC dJ6_bitCount_0f7a4_40 (q_dcC dJ6_bitCount_0f7a4_41 (q_dcC dJ6_bitCount_0f7a4_42 (q_dcC dJ6_bitCount_0f7a4_43 (q_dcC dJ6_bitCount_0f7a4_45 (q_dcC dJ6_bitCount_0f7a4_46 (q_dcC dJ6_bitCount_0f7a4_47 (q_dcC dJ6_bitCount_0f7a4_48 (q_dcC dJ6_bitCount_0f7a4_49 (q_dcC dJ6_bitCount_0f7a4_51 q_dcN))))))))))))))))) (show _ = some (52, [.int (((((((x0 - (((x0 : Int32).toUInt32 >>> ((1 : Int32).toUInt32 &&& Int32.toUInt32 31)).toInt32 &&& 1431655765)) &&& 858993459) + ((((x0 - (((x0 : Int32).toUInt32 >>> ((1 : Int32).toUInt32 &&& Int32.toUInt32 31)).toInt32 &&& 1431655765)) : Int32).toUInt32 >>> ((2 : Int32).toUInt32 &&& Int32.toUInt32 31)).toInt32 &&& 858993459)) + (((((x0 - (((x0 : Int32).toUInt32 >>> ((1 : Int32).toUInt32 &&& Int32.toUInt32 31)).toInt32 &&& 1431655765)) &&& 858993459) + ((((x0 - (((x0 : Int32).toUInt32 >>> ((1 : Int32).toUInt32 &&& Int32.toUInt32 31)).toInt32 &&& 1431655765)) : Int32).toUInt32 >>> ((2 : Int32).toUInt32 &&& Int32.toUInt32 31)).toInt32 &&& 858993459)) : Int32).toUInt32 >>> ((4 : Int32).toUInt32 &&& Int32.toUInt32 31)).toInt32) &&& 252645135) + (((((((x0 - (((x0 : Int32).toUInt32 >>> ((1 : Int32).toUInt32 &&& Int32.toUInt32 31)).toInt32 &&& 1431655765)) &&& 858993459) + ((((x0 - (((x0 : Int32).toUInt32 >>> ((1 : Int32).toUInt32 &&& Int32.toUInt32 31)).toInt32 &&& 1431655765)) : Int32).toUInt32 >>> ((2 : Int32).toUInt32 &&& Int32.toUInt32 31)).toInt32 &&& 858993459)) + (((((x0 - (((x0 : Int32).toUInt32 >>> ((1 : Int32).toUInt32 &&& Int32.toUInt32 31)).toInt32 &&& 1431655765)) &&& 858993459) + ((((x0 - (((x0 : Int32).toUInt32 >>> ((1 : Int32).toUInt32 &&& Int32.toUInt32 31)).toInt32 &&& 1431655765)) : Int32).toUInt32 >>> ((2 : Int32).toUInt32 &&& Int32.toUInt32 31)).toInt32 &&& 858993459)) : Int32).toUInt32 >>> ((4 : Int32).toUInt32 &&& Int32.toUInt32 31)).toInt32) &&& 252645135) : Int32).toUInt32 >>> ((8 : Int32).toUInt32 &&& Int32.toUInt32 31)).toInt32) + ((((((((x0 - (((x0 : Int32).toUInt32 >>> ((1 : Int32).toUInt32 &&& Int32.toUInt32 31)).toInt32 &&& 1431655765)) &&& 858993459) + ((((x0 - (((x0 : Int32).toUInt32 >>> ((1 : Int32).toUInt32 &&& Int32.toUInt32 31)).toInt32 &&& 1431655765)) : Int32).toUInt32 >>> ((2 : Int32).toUInt32 &&& Int32.toUInt32 31)).toInt32 &&& 858993459)) + (((((x0 - (((x0 : Int32).toUInt32 >>> ((1 : Int32).toUInt32 &&& Int32.toUInt32 31)).toInt32 &&& 1431655765)) &&& 858993459) + ((((x0 - (((x0 : Int32).toUInt32 >>> ((1 : Int32).toUInt32 &&& Int32.toUInt32 31)).toInt32 &&& 1431655765)) : Int32).toUInt32 >>> ((2 : Int32).toUInt32 &&& Int32.toUInt32 31)).toInt32 &&& 858993459)) : Int32).toUInt32 >>> ((4 : Int32).toUInt32 &&& Int32.toUInt32 31)).toInt32) &&& 252645135) + (((((((x0 - (((x0 : Int32).toUInt32 >>> ((1 : Int32).toUInt32 &&& Int32.toUInt32 31)).toInt32 &&& 1431655765)) &&& 858993459) + ((((x0 - (((x0 : Int32).toUInt32 >>> ((1 : Int32).toUInt32 &&& Int32.toUInt32 31)).toInt32 &&& 1431655765)) : Int32).toUInt32 >>> ((2 : Int32).toUInt32 &&& Int32.toUInt32 31)).toInt32 &&& 858993459)) + (((((x0 - (((x0 : Int32).toUInt32 >>> ((1 : Int32).toUInt32 &&& Int32.toUInt32 31)).toInt32 &&& 1431655765)) &&& 858993459) + ((((x0 - (((x0 : Int32).toUInt32 >>> ((1 : Int32).toUInt32 &&& Int32.toUInt32 31)).toInt32 &&& 1431655765)) : Int32).toUInt32 >>> ((2 : Int32).toUInt32 &&& Int32.toUInt32 31)).toInt32 &&& 858993459)) : Int32).toUInt32 >>> ((4 : Int32).toUInt32 &&& Int32.toUInt32 31)).toInt32) &&& 252645135) : Int32).toUInt32 >>> ((8 : Int32).toUInt32 &&& Int32.toUInt32 31)).toInt32) : Int32).toUInt32 >>> ((16 : Int32).toUInt32 &&& Int32.toUInt32 31)).toInt32)], [.int ((((((((x0 - (((x0 : Int32).toUInt32 >>> ((1 : Int32).toUInt32 &&& Int32.toUInt32 31)).toInt32 &&& 1431655765)) &&& 858993459) + ((((x0 - (((x0 : Int32).toUInt32 >>> ((1 : Int32).toUInt32 &&& Int32.toUInt32 31)).toInt32 &&& 1431655765)) : Int32).toUInt32 >>> ((2 : Int32).toUInt32 &&& Int32.toUInt32 31)).toInt32 &&& 858993459)) + (((((x0 - (((x0 : Int32).toUInt32 >>> ((1 : Int32).toUInt32 &&& Int32.toUInt32 31)).toInt32 &&& 1431655765)) &&& 858993459) + ((((x0 - (((x0 : Int32).toUInt32 >>> ((1 : Int32).toUInt32 &&& Int32.toUInt32 31)).toInt32 &&& 1431655765)) : Int32).toUInt32 >>> ((2 : Int32).toUInt32 &&& Int32.toUInt32 31)).toInt32 &&& 858993459)) : Int32).toUInt32 >>> ((4 : Int32).toUInt32 &&& Int32.toUInt32 31)).toInt32) &&& 252645135) + (((((((x0 - (((x0 : Int32).toUInt32 >>> ((1 : Int32).toUInt32 &&& Int32.toUInt32 31)).toInt32 &&& 1431655765)) &&& 858993459) + ((((x0 - (((x0 : Int32).toUInt32 >>> ((1 : Int32).toUInt32 &&& Int32.toUInt32 31)).toInt32 &&& 1431655765)) : Int32).toUInt32 >>> ((2 : Int32).toUInt32 &&& Int32.toUInt32 31)).toInt32 &&& 858993459)) + (((((x0 - (((x0 : Int32).toUInt32 >>> ((1 : Int32).toUInt32 &&& Int32.toUInt32 31)).toInt32 &&& 1431655765)) &&& 858993459) + ((((x0 - (((x0 : Int32).toUInt32 >>> ((1 : Int32).toUInt32 &&& Int32.toUInt32 31)).toInt32 &&& 1431655765)) : Int32).toUInt32 >>> ((2 : Int32).toUInt32 &&& Int32.toUInt32 31)).toInt32 &&& 858993459)) : Int32).toUInt32 >>> ((4 : Int32).toUInt32 &&& Int32.toUInt32 31)).toInt32) &&& 252645135) : Int32).toUInt32 >>> ((8 : Int32).toUInt32 &&& Int32.toUInt32 31)).toInt32) + ((((((((x0 - (((x0 : Int32).toUInt32 >>> ((1 : Int32).toUInt32 &&& Int32.toUInt32 31)).toInt32 &&& 1431655765)) &&& 858993459) + ((((x0 - (((x0 : Int32).toUInt32 >>> ((1 : Int32).toUInt32 &&& Int32.toUInt32 31)).toInt32 &&& 1431655765)) : Int32).toUInt32 >>> ((2 : Int32).toUInt32 &&& Int32.toUInt32 31)).toInt32 &&& 858993459)) + (((((x0 - (((x0 : Int32).toUInt32 >>> ((1 : Int32).toUInt32 &&& Int32.toUInt32 31)).toInt32 &&& 1431655765)) &&& 858993459) + ((((x0 - (((x0 : Int32).toUInt32 >>> ((1 : Int32).toUInt32 &&& Int32.toUInt32 31)).toInt32 &&& 1431655765)) : Int32).toUInt32 >>> ((2 : Int32).toUInt32 &&& Int32.toUInt32 31)).toInt32 &&& 858993459)) : Int32).toUInt32 >>> ((4 : Int32).toUInt32 &&& Int32.toUInt32 31)).toInt32) &&& 252645135) + (((((((x0 - (((x0 : Int32).toUInt32 >>> ((1 : Int32).toUInt32 &&& Int32.toUInt32 31)).toInt32 &&& 1431655765)) &&& 858993459) + ((((x0 - (((x0 : Int32).toUInt32 >>> ((1 : Int32).toUInt32 &&& Int32.toUInt32 31)).toInt32 &&& 1431655765)) : Int32).toUInt32 >>> ((2 : Int32).toUInt32 &&& Int32.toUInt32 31)).toInt32 &&& 858993459)) + (((((x0 - (((x0 : Int32).toUInt32 >>> ((1 : Int32).toUInt32 &&& Int32.toUInt32 31)).toInt32 &&& 1431655765)) &&& 858993459) + ((((x0 - (((x0 : Int32).toUInt32 >>> ((1 : Int32).toUInt32 &&& Int32.toUInt32 31)).toInt32 &&& 1431655765)) : Int32).toUInt32 >>> ((2 : Int32).toUInt32 &&& Int32.toUInt32 31)).toInt32 &&& 858993459)) : Int32).toUInt32 >>> ((4 : Int32).toUInt32 &&& Int32.toUInt32 31)).toInt32) &&& 252645135) : Int32).toUInt32 >>> ((8 : Int32).toUInt32 &&& Int32.toUInt32 31)).toInt32) : Int32).toUInt32 >>> ((16 : Int32).toUInt32 &&& Int32.toUInt32 31)).toInt32) &&& 63)]) from rfl)).trans ?_
  exact k_iret (Y := mJ6_bitCount_0f7a4) dJ6_bitCount_0f7a4_52 rfl
