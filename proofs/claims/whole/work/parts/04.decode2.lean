theorem dX6_step_45 : decode cX6_step 45 = .ok (.aload_n 0, 1) := by decide +kernel
theorem dX6_step_46 : decode cX6_step 46 = .ok (.getfield 30, 3) := by decide +kernel
theorem dX6_step_49 : decode cX6_step 49 = .ok (.iload_n 3, 1) := by decide +kernel
theorem dX6_step_50 : decode cX6_step 50 = .ok (.invokevirtual 99, 3) := by decide +kernel
theorem dX6_step_53 : decode cX6_step 53 = .ok (.sipush 200, 3) := by decide +kernel
theorem dX6_step_56 : decode cX6_step 56 = .ok (.if_icmp .le 6, 3) := by decide +kernel
theorem dX6_step_59 : decode cX6_step 59 = .ok (.bipush (-4), 2) := by decide +kernel
theorem dX6_step_61 : decode cX6_step 61 = .ok (.ireturn, 1) := by decide +kernel
theorem dX6_step_62 : decode cX6_step 62 = .ok (.aload_n 0, 1) := by decide +kernel
theorem dX6_step_63 : decode cX6_step 63 = .ok (.getfield 37, 3) := by decide +kernel
theorem dX6_step_66 : decode cX6_step 66 = .ok (.invokevirtual 60, 3) := by decide +kernel
theorem dX6_step_69 : decode cX6_step 69 = .ok (.aload_n 0, 1) := by decide +kernel
theorem dX6_step_70 : decode cX6_step 70 = .ok (.getfield 30, 3) := by decide +kernel
theorem dX6_step_73 : decode cX6_step 73 = .ok (.iload_n 3, 1) := by decide +kernel
theorem dX6_step_74 : decode cX6_step 74 = .ok (.invokevirtual 102, 3) := by decide +kernel
theorem dX6_step_77 : decode cX6_step 77 = .ok (.aload_n 0, 1) := by decide +kernel
theorem dX6_step_78 : decode cX6_step 78 = .ok (.getfield 12, 3) := by decide +kernel
theorem dX6_step_81 : decode cX6_step 81 = .ok (.iload_n 1, 1) := by decide +kernel
theorem dX6_step_82 : decode cX6_step 82 = .ok (.invokevirtual 70, 3) := by decide +kernel
theorem dX6_step_85 : decode cX6_step 85 = .ok (.ireturn, 1) := by decide +kernel
theorem dX6_run_0 : decode cX6_run 0 = .ok (.iload_n 1, 1) := by decide +kernel
theorem dX6_run_1 : decode cX6_run 1 = .ok (.invokestatic 52, 3) := by decide +kernel
theorem dX6_run_4 : decode cX6_run 4 = .ok (.ifCond .ne 5, 3) := by decide +kernel
theorem dX6_run_7 : decode cX6_run 7 = .ok (.iconst (-1), 1) := by decide +kernel
theorem dX6_run_8 : decode cX6_run 8 = .ok (.ireturn, 1) := by decide +kernel
theorem dX6_run_9 : decode cX6_run 9 = .ok (.iload_n 2, 1) := by decide +kernel
theorem dX6_run_10 : decode cX6_run 10 = .ok (.invokestatic 90, 3) := by decide +kernel
theorem dX6_run_13 : decode cX6_run 13 = .ok (.ifCond .eq 10, 3) := by decide +kernel
theorem dX6_run_16 : decode cX6_run 16 = .ok (.iload_n 3, 1) := by decide +kernel
theorem dX6_run_17 : decode cX6_run 17 = .ok (.invokestatic 105, 3) := by decide +kernel
theorem dX6_run_20 : decode cX6_run 20 = .ok (.ifCond .ne 6, 3) := by decide +kernel
theorem dX6_run_23 : decode cX6_run 23 = .ok (.bipush (-2), 2) := by decide +kernel
theorem dX6_run_25 : decode cX6_run 25 = .ok (.ireturn, 1) := by decide +kernel
theorem dX6_run_26 : decode cX6_run 26 = .ok (.aload_n 0, 1) := by decide +kernel
theorem dX6_run_27 : decode cX6_run 27 = .ok (.getfield 37, 3) := by decide +kernel
theorem dX6_run_30 : decode cX6_run 30 = .ok (.invokevirtual 60, 3) := by decide +kernel
theorem dX6_run_33 : decode cX6_run 33 = .ok (.aload_n 0, 1) := by decide +kernel
theorem dX6_run_34 : decode cX6_run 34 = .ok (.getfield 30, 3) := by decide +kernel
theorem dX6_run_37 : decode cX6_run 37 = .ok (.iload_n 1, 1) := by decide +kernel
theorem dX6_run_38 : decode cX6_run 38 = .ok (.iload_n 2, 1) := by decide +kernel
theorem dX6_run_39 : decode cX6_run 39 = .ok (.iload_n 3, 1) := by decide +kernel
theorem dX6_run_40 : decode cX6_run 40 = .ok (.invokevirtual 108, 3) := by decide +kernel
theorem dX6_run_43 : decode cX6_run 43 = .ok (.pop, 1) := by decide +kernel
theorem dX6_run_44 : decode cX6_run 44 = .ok (.aload_n 0, 1) := by decide +kernel
theorem dX6_run_45 : decode cX6_run 45 = .ok (.getfield 30, 3) := by decide +kernel
theorem dX6_run_48 : decode cX6_run 48 = .ok (.invokevirtual 112, 3) := by decide +kernel
theorem dX6_run_51 : decode cX6_run 51 = .ok (.ireturn, 1) := by decide +kernel
theorem dX6_of_0 : decode cX6_of 0 = .ok (.iload_n 1, 1) := by decide +kernel
theorem dX6_of_1 : decode cX6_of 1 = .ok (.invokestatic 52, 3) := by decide +kernel
theorem dX6_of_4 : decode cX6_of 4 = .ok (.ifCond .ne 5, 3) := by decide +kernel
theorem dX6_of_7 : decode cX6_of 7 = .ok (.iconst (-1), 1) := by decide +kernel
theorem dX6_of_8 : decode cX6_of 8 = .ok (.ireturn, 1) := by decide +kernel
theorem dX6_of_9 : decode cX6_of 9 = .ok (.iload_n 2, 1) := by decide +kernel
theorem dX6_of_10 : decode cX6_of 10 = .ok (.ifCond .lt 9, 3) := by decide +kernel
theorem dX6_of_13 : decode cX6_of 13 = .ok (.iload_n 2, 1) := by decide +kernel
theorem dX6_of_14 : decode cX6_of 14 = .ok (.bipush 10, 2) := by decide +kernel
theorem dX6_of_16 : decode cX6_of 16 = .ok (.if_icmp .le 6, 3) := by decide +kernel
theorem dX6_of_19 : decode cX6_of 19 = .ok (.bipush (-2), 2) := by decide +kernel
theorem dX6_of_21 : decode cX6_of 21 = .ok (.ireturn, 1) := by decide +kernel
theorem dX6_of_22 : decode cX6_of 22 = .ok (.aload_n 0, 1) := by decide +kernel
theorem dX6_of_23 : decode cX6_of 23 = .ok (.getfield 21, 3) := by decide +kernel
theorem dX6_of_26 : decode cX6_of 26 = .ok (.iload_n 1, 1) := by decide +kernel
theorem dX6_of_27 : decode cX6_of 27 = .ok (.invokevirtual 93, 3) := by decide +kernel
theorem dX6_of_30 : decode cX6_of 30 = .ok (.iload_n 2, 1) := by decide +kernel
theorem dX6_of_31 : decode cX6_of 31 = .ok (.tableswitch 145 0 9 #[53, 62, 72, 82, 92, 102, 110, 118, 127, 136], 53) := by decide +kernel
theorem dX6_of_84 : decode cX6_of 84 = .ok (.aload_n 0, 1) := by decide +kernel
theorem dX6_of_85 : decode cX6_of 85 = .ok (.getfield 12, 3) := by decide +kernel
theorem dX6_of_88 : decode cX6_of 88 = .ok (.iload_n 1, 1) := by decide +kernel
theorem dX6_of_89 : decode cX6_of 89 = .ok (.invokevirtual 70, 3) := by decide +kernel
theorem dX6_of_92 : decode cX6_of 92 = .ok (.ireturn, 1) := by decide +kernel
theorem dX6_of_93 : decode cX6_of 93 = .ok (.aload_n 0, 1) := by decide +kernel
theorem dX6_of_94 : decode cX6_of 94 = .ok (.getfield 12, 3) := by decide +kernel
theorem dX6_of_97 : decode cX6_of 97 = .ok (.iload_n 1, 1) := by decide +kernel
theorem dX6_of_98 : decode cX6_of 98 = .ok (.iconst 2, 1) := by decide +kernel
theorem dX6_of_99 : decode cX6_of 99 = .ok (.invokevirtual 115, 3) := by decide +kernel
theorem dX6_of_102 : decode cX6_of 102 = .ok (.ireturn, 1) := by decide +kernel
theorem dX6_of_103 : decode cX6_of 103 = .ok (.aload_n 0, 1) := by decide +kernel
theorem dX6_of_104 : decode cX6_of 104 = .ok (.getfield 12, 3) := by decide +kernel
theorem dX6_of_107 : decode cX6_of 107 = .ok (.iload_n 1, 1) := by decide +kernel
theorem dX6_of_108 : decode cX6_of 108 = .ok (.iconst 3, 1) := by decide +kernel
theorem dX6_of_109 : decode cX6_of 109 = .ok (.invokevirtual 115, 3) := by decide +kernel
theorem dX6_of_112 : decode cX6_of 112 = .ok (.ireturn, 1) := by decide +kernel
theorem dX6_of_113 : decode cX6_of 113 = .ok (.aload_n 0, 1) := by decide +kernel
theorem dX6_of_114 : decode cX6_of 114 = .ok (.getfield 12, 3) := by decide +kernel
theorem dX6_of_117 : decode cX6_of 117 = .ok (.iload_n 1, 1) := by decide +kernel
theorem dX6_of_118 : decode cX6_of 118 = .ok (.iconst 0, 1) := by decide +kernel
theorem dX6_of_119 : decode cX6_of 119 = .ok (.invokevirtual 115, 3) := by decide +kernel
theorem dX6_of_122 : decode cX6_of 122 = .ok (.ireturn, 1) := by decide +kernel
theorem dX6_of_123 : decode cX6_of 123 = .ok (.aload_n 0, 1) := by decide +kernel
theorem dX6_of_124 : decode cX6_of 124 = .ok (.getfield 12, 3) := by decide +kernel
theorem dX6_of_127 : decode cX6_of 127 = .ok (.iload_n 1, 1) := by decide +kernel
theorem dX6_of_128 : decode cX6_of 128 = .ok (.iconst 1, 1) := by decide +kernel
theorem dX6_of_129 : decode cX6_of 129 = .ok (.invokevirtual 115, 3) := by decide +kernel
theorem dX6_of_132 : decode cX6_of 132 = .ok (.ireturn, 1) := by decide +kernel
theorem dX6_of_133 : decode cX6_of 133 = .ok (.aload_n 0, 1) := by decide +kernel
theorem dX6_of_134 : decode cX6_of 134 = .ok (.getfield 21, 3) := by decide +kernel
theorem dX6_of_137 : decode cX6_of 137 = .ok (.invokevirtual 118, 3) := by decide +kernel
theorem dX6_of_140 : decode cX6_of 140 = .ok (.ireturn, 1) := by decide +kernel
theorem dX6_of_141 : decode cX6_of 141 = .ok (.aload_n 0, 1) := by decide +kernel
theorem dX6_of_142 : decode cX6_of 142 = .ok (.getfield 21, 3) := by decide +kernel
theorem dX6_of_145 : decode cX6_of 145 = .ok (.invokevirtual 121, 3) := by decide +kernel
theorem dX6_of_148 : decode cX6_of 148 = .ok (.ireturn, 1) := by decide +kernel
theorem dX6_of_149 : decode cX6_of 149 = .ok (.aload_n 0, 1) := by decide +kernel
theorem dX6_of_150 : decode cX6_of 150 = .ok (.getfield 21, 3) := by decide +kernel
theorem dX6_of_153 : decode cX6_of 153 = .ok (.iconst 0, 1) := by decide +kernel
theorem dX6_of_154 : decode cX6_of 154 = .ok (.invokevirtual 96, 3) := by decide +kernel
theorem dX6_of_157 : decode cX6_of 157 = .ok (.ireturn, 1) := by decide +kernel
theorem dX6_of_158 : decode cX6_of 158 = .ok (.aload_n 0, 1) := by decide +kernel
theorem dX6_of_159 : decode cX6_of 159 = .ok (.getfield 21, 3) := by decide +kernel
theorem dX6_of_162 : decode cX6_of 162 = .ok (.iconst 1, 1) := by decide +kernel
theorem dX6_of_163 : decode cX6_of 163 = .ok (.invokevirtual 96, 3) := by decide +kernel
theorem dX6_of_166 : decode cX6_of 166 = .ok (.ireturn, 1) := by decide +kernel
theorem dX6_of_167 : decode cX6_of 167 = .ok (.aload_n 0, 1) := by decide +kernel
theorem dX6_of_168 : decode cX6_of 168 = .ok (.getfield 21, 3) := by decide +kernel
theorem dX6_of_171 : decode cX6_of 171 = .ok (.iconst 2, 1) := by decide +kernel
theorem dX6_of_172 : decode cX6_of 172 = .ok (.invokevirtual 96, 3) := by decide +kernel
theorem dX6_of_175 : decode cX6_of 175 = .ok (.ireturn, 1) := by decide +kernel
theorem dX6_of_176 : decode cX6_of 176 = .ok (.aload_n 0, 1) := by decide +kernel
theorem dX6_of_177 : decode cX6_of 177 = .ok (.getfield 12, 3) := by decide +kernel
theorem dX6_of_180 : decode cX6_of 180 = .ok (.iload_n 1, 1) := by decide +kernel
theorem dX6_of_181 : decode cX6_of 181 = .ok (.invokevirtual 124, 3) := by decide +kernel
theorem dX6_of_184 : decode cX6_of 184 = .ok (.ireturn, 1) := by decide +kernel
theorem dX6_part_0 : decode cX6_part 0 = .ok (.iload_n 1, 1) := by decide +kernel
theorem dX6_part_1 : decode cX6_part 1 = .ok (.invokestatic 52, 3) := by decide +kernel
theorem dX6_part_4 : decode cX6_part 4 = .ok (.ifCond .eq 19, 3) := by decide +kernel
theorem dX6_part_7 : decode cX6_part 7 = .ok (.iload_n 2, 1) := by decide +kernel
theorem dX6_part_8 : decode cX6_part 8 = .ok (.ifCond .lt 15, 3) := by decide +kernel
theorem dX6_part_11 : decode cX6_part 11 = .ok (.iload_n 2, 1) := by decide +kernel
theorem dX6_part_12 : decode cX6_part 12 = .ok (.aload_n 0, 1) := by decide +kernel
theorem dX6_part_13 : decode cX6_part 13 = .ok (.getfield 12, 3) := by decide +kernel
theorem dX6_part_16 : decode cX6_part 16 = .ok (.iload_n 1, 1) := by decide +kernel
theorem dX6_part_17 : decode cX6_part 17 = .ok (.invokevirtual 70, 3) := by decide +kernel
theorem dX6_part_20 : decode cX6_part 20 = .ok (.if_icmp .lt 5, 3) := by decide +kernel
theorem dX6_part_23 : decode cX6_part 23 = .ok (.iconst (-1), 1) := by decide +kernel
theorem dX6_part_24 : decode cX6_part 24 = .ok (.ireturn, 1) := by decide +kernel
theorem dX6_part_25 : decode cX6_part 25 = .ok (.iload_n 3, 1) := by decide +kernel
theorem dX6_part_26 : decode cX6_part 26 = .ok (.ifCond .lt 8, 3) := by decide +kernel
theorem dX6_part_29 : decode cX6_part 29 = .ok (.iload_n 3, 1) := by decide +kernel
theorem dX6_part_30 : decode cX6_part 30 = .ok (.iconst 4, 1) := by decide +kernel
theorem dX6_part_31 : decode cX6_part 31 = .ok (.if_icmp .le 6, 3) := by decide +kernel
theorem dX6_part_34 : decode cX6_part 34 = .ok (.bipush (-2), 2) := by decide +kernel
theorem dX6_part_36 : decode cX6_part 36 = .ok (.ireturn, 1) := by decide +kernel
theorem dX6_part_37 : decode cX6_part 37 = .ok (.aload_n 0, 1) := by decide +kernel
theorem dX6_part_38 : decode cX6_part 38 = .ok (.getfield 21, 3) := by decide +kernel
theorem dX6_part_41 : decode cX6_part 41 = .ok (.iload_n 1, 1) := by decide +kernel
theorem dX6_part_42 : decode cX6_part 42 = .ok (.invokevirtual 93, 3) := by decide +kernel
theorem dX6_part_45 : decode cX6_part 45 = .ok (.iload_n 3, 1) := by decide +kernel
theorem dX6_part_46 : decode cX6_part 46 = .ok (.tableswitch 68 0 3 #[30, 40, 50, 59], 30) := by decide +kernel
theorem dX6_part_76 : decode cX6_part 76 = .ok (.aload_n 0, 1) := by decide +kernel
theorem dX6_part_77 : decode cX6_part 77 = .ok (.getfield 12, 3) := by decide +kernel
theorem dX6_part_80 : decode cX6_part 80 = .ok (.iload_n 1, 1) := by decide +kernel
theorem dX6_part_81 : decode cX6_part 81 = .ok (.iload_n 2, 1) := by decide +kernel
theorem dX6_part_82 : decode cX6_part 82 = .ok (.invokevirtual 127, 3) := by decide +kernel
theorem dX6_part_85 : decode cX6_part 85 = .ok (.ireturn, 1) := by decide +kernel
theorem dX6_part_86 : decode cX6_part 86 = .ok (.aload_n 0, 1) := by decide +kernel
theorem dX6_part_87 : decode cX6_part 87 = .ok (.getfield 12, 3) := by decide +kernel
theorem dX6_part_90 : decode cX6_part 90 = .ok (.iload_n 1, 1) := by decide +kernel
theorem dX6_part_91 : decode cX6_part 91 = .ok (.iload_n 2, 1) := by decide +kernel
theorem dX6_part_92 : decode cX6_part 92 = .ok (.invokevirtual 130, 3) := by decide +kernel
theorem dX6_part_95 : decode cX6_part 95 = .ok (.ireturn, 1) := by decide +kernel
theorem dX6_part_96 : decode cX6_part 96 = .ok (.aload_n 0, 1) := by decide +kernel
theorem dX6_part_97 : decode cX6_part 97 = .ok (.getfield 21, 3) := by decide +kernel
theorem dX6_part_100 : decode cX6_part 100 = .ok (.iload_n 2, 1) := by decide +kernel
theorem dX6_part_101 : decode cX6_part 101 = .ok (.invokevirtual 133, 3) := by decide +kernel
theorem dX6_part_104 : decode cX6_part 104 = .ok (.ireturn, 1) := by decide +kernel
theorem dX6_part_105 : decode cX6_part 105 = .ok (.aload_n 0, 1) := by decide +kernel
theorem dX6_part_106 : decode cX6_part 106 = .ok (.getfield 21, 3) := by decide +kernel
theorem dX6_part_109 : decode cX6_part 109 = .ok (.iload_n 2, 1) := by decide +kernel
theorem dX6_part_110 : decode cX6_part 110 = .ok (.invokevirtual 136, 3) := by decide +kernel
theorem dX6_part_113 : decode cX6_part 113 = .ok (.ireturn, 1) := by decide +kernel
theorem dX6_part_114 : decode cX6_part 114 = .ok (.aload_n 0, 1) := by decide +kernel
theorem dX6_part_115 : decode cX6_part 115 = .ok (.getfield 21, 3) := by decide +kernel
theorem dX6_part_118 : decode cX6_part 118 = .ok (.iload_n 2, 1) := by decide +kernel
theorem dX6_part_119 : decode cX6_part 119 = .ok (.invokevirtual 139, 3) := by decide +kernel
theorem dX6_part_122 : decode cX6_part 122 = .ok (.ireturn, 1) := by decide +kernel
theorem dX6_named_0 : decode cX6_named 0 = .ok (.iload_n 1, 1) := by decide +kernel
theorem dX6_named_1 : decode cX6_named 1 = .ok (.invokestatic 52, 3) := by decide +kernel
theorem dX6_named_4 : decode cX6_named 4 = .ok (.ifCond .ne 5, 3) := by decide +kernel
theorem dX6_named_7 : decode cX6_named 7 = .ok (.iconst (-1), 1) := by decide +kernel
theorem dX6_named_8 : decode cX6_named 8 = .ok (.ireturn, 1) := by decide +kernel
theorem dX6_named_9 : decode cX6_named 9 = .ok (.aload_n 0, 1) := by decide +kernel
theorem dX6_named_10 : decode cX6_named 10 = .ok (.getfield 21, 3) := by decide +kernel
theorem dX6_named_13 : decode cX6_named 13 = .ok (.iload_n 1, 1) := by decide +kernel
theorem dX6_named_14 : decode cX6_named 14 = .ok (.invokevirtual 93, 3) := by decide +kernel
theorem dX6_named_17 : decode cX6_named 17 = .ok (.aload_n 0, 1) := by decide +kernel
theorem dX6_named_18 : decode cX6_named 18 = .ok (.getfield 21, 3) := by decide +kernel
theorem dX6_named_21 : decode cX6_named 21 = .ok (.iload_n 2, 1) := by decide +kernel
theorem dX6_named_22 : decode cX6_named 22 = .ok (.invokevirtual 142, 3) := by decide +kernel
theorem dX6_named_25 : decode cX6_named 25 = .ok (.ireturn, 1) := by decide +kernel
theorem dX6_same_0 : decode cX6_same 0 = .ok (.iload_n 1, 1) := by decide +kernel
theorem dX6_same_1 : decode cX6_same 1 = .ok (.invokestatic 52, 3) := by decide +kernel
theorem dX6_same_4 : decode cX6_same 4 = .ok (.ifCond .eq 10, 3) := by decide +kernel
theorem dX6_same_7 : decode cX6_same 7 = .ok (.iload_n 2, 1) := by decide +kernel
theorem dX6_same_8 : decode cX6_same 8 = .ok (.invokestatic 52, 3) := by decide +kernel
theorem dX6_same_11 : decode cX6_same 11 = .ok (.ifCond .ne 5, 3) := by decide +kernel
theorem dX6_same_14 : decode cX6_same 14 = .ok (.iconst (-1), 1) := by decide +kernel
theorem dX6_same_15 : decode cX6_same 15 = .ok (.ireturn, 1) := by decide +kernel
theorem dX6_same_16 : decode cX6_same 16 = .ok (.aload_n 0, 1) := by decide +kernel
theorem dX6_same_17 : decode cX6_same 17 = .ok (.getfield 12, 3) := by decide +kernel
theorem dX6_same_20 : decode cX6_same 20 = .ok (.iload_n 1, 1) := by decide +kernel
theorem dX6_same_21 : decode cX6_same 21 = .ok (.iload_n 2, 1) := by decide +kernel
theorem dX6_same_22 : decode cX6_same 22 = .ok (.invokevirtual 145, 3) := by decide +kernel
theorem dX6_same_25 : decode cX6_same 25 = .ok (.ifCond .eq 7, 3) := by decide +kernel
theorem dX6_same_28 : decode cX6_same 28 = .ok (.iconst 1, 1) := by decide +kernel
theorem dX6_same_29 : decode cX6_same 29 = .ok (.goto 4, 3) := by decide +kernel
theorem dX6_same_32 : decode cX6_same 32 = .ok (.iconst 0, 1) := by decide +kernel
theorem dX6_same_33 : decode cX6_same 33 = .ok (.ireturn, 1) := by decide +kernel
theorem dX6_count_0 : decode cX6_count 0 = .ok (.iload_n 1, 1) := by decide +kernel
theorem dX6_count_1 : decode cX6_count 1 = .ok (.tableswitch 61 0 3 #[31, 40, 45, 53], 31) := by decide +kernel
theorem dX6_count_32 : decode cX6_count 32 = .ok (.aload_n 0, 1) := by decide +kernel
theorem dX6_count_33 : decode cX6_count 33 = .ok (.getfield 12, 3) := by decide +kernel
theorem dX6_count_36 : decode cX6_count 36 = .ok (.iconst 0, 1) := by decide +kernel
theorem dX6_count_37 : decode cX6_count 37 = .ok (.invokevirtual 149, 3) := by decide +kernel
theorem dX6_count_40 : decode cX6_count 40 = .ok (.ireturn, 1) := by decide +kernel
theorem dX6_count_41 : decode cX6_count 41 = .ok (.aload_n 0, 1) := by decide +kernel
theorem dX6_count_42 : decode cX6_count 42 = .ok (.invokevirtual 152, 3) := by decide +kernel
theorem dX6_count_45 : decode cX6_count 45 = .ok (.ireturn, 1) := by decide +kernel
theorem dX6_count_46 : decode cX6_count 46 = .ok (.aload_n 0, 1) := by decide +kernel
theorem dX6_count_47 : decode cX6_count 47 = .ok (.getfield 44, 3) := by decide +kernel
theorem dX6_count_50 : decode cX6_count 50 = .ok (.invokevirtual 155, 3) := by decide +kernel
theorem dX6_count_53 : decode cX6_count 53 = .ok (.ireturn, 1) := by decide +kernel
theorem dX6_count_54 : decode cX6_count 54 = .ok (.aload_n 0, 1) := by decide +kernel
theorem dX6_count_55 : decode cX6_count 55 = .ok (.getfield 37, 3) := by decide +kernel
theorem dX6_count_58 : decode cX6_count 58 = .ok (.invokevirtual 157, 3) := by decide +kernel
theorem dX6_count_61 : decode cX6_count 61 = .ok (.ireturn, 1) := by decide +kernel
theorem dX6_count_62 : decode cX6_count 62 = .ok (.bipush (-2), 2) := by decide +kernel
theorem dX6_count_64 : decode cX6_count 64 = .ok (.ireturn, 1) := by decide +kernel
theorem dX6_ends_0 : decode cX6_ends 0 = .ok (.iload_n 1, 1) := by decide +kernel
theorem dX6_ends_1 : decode cX6_ends 1 = .ok (.invokestatic 52, 3) := by decide +kernel
theorem dX6_ends_4 : decode cX6_ends 4 = .ok (.ifCond .ne 5, 3) := by decide +kernel
theorem dX6_ends_7 : decode cX6_ends 7 = .ok (.iconst (-1), 1) := by decide +kernel
theorem dX6_ends_8 : decode cX6_ends 8 = .ok (.ireturn, 1) := by decide +kernel
theorem dX6_ends_9 : decode cX6_ends 9 = .ok (.iload_n 2, 1) := by decide +kernel
theorem dX6_ends_10 : decode cX6_ends 10 = .ok (.invokestatic 90, 3) := by decide +kernel
theorem dX6_ends_13 : decode cX6_ends 13 = .ok (.ifCond .eq 10, 3) := by decide +kernel
theorem dX6_ends_16 : decode cX6_ends 16 = .ok (.iload_n 3, 1) := by decide +kernel
theorem dX6_ends_17 : decode cX6_ends 17 = .ok (.invokestatic 105, 3) := by decide +kernel
theorem dX6_ends_20 : decode cX6_ends 20 = .ok (.ifCond .ne 6, 3) := by decide +kernel
theorem dX6_ends_23 : decode cX6_ends 23 = .ok (.bipush (-2), 2) := by decide +kernel
theorem dX6_ends_25 : decode cX6_ends 25 = .ok (.ireturn, 1) := by decide +kernel
theorem dX6_ends_26 : decode cX6_ends 26 = .ok (.aload_n 0, 1) := by decide +kernel
theorem dX6_ends_27 : decode cX6_ends 27 = .ok (.getfield 12, 3) := by decide +kernel
theorem dX6_ends_30 : decode cX6_ends 30 = .ok (.iload_n 1, 1) := by decide +kernel
theorem dX6_ends_31 : decode cX6_ends 31 = .ok (.bipush 54, 2) := by decide +kernel
theorem dX6_ends_33 : decode cX6_ends 33 = .ok (.invokevirtual 74, 3) := by decide +kernel
theorem dX6_ends_36 : decode cX6_ends 36 = .ok (.aload_n 0, 1) := by decide +kernel
theorem dX6_ends_37 : decode cX6_ends 37 = .ok (.getfield 30, 3) := by decide +kernel
theorem dX6_ends_40 : decode cX6_ends 40 = .ok (.bipush 54, 2) := by decide +kernel
theorem dX6_ends_42 : decode cX6_ends 42 = .ok (.iload_n 2, 1) := by decide +kernel
theorem dX6_ends_43 : decode cX6_ends 43 = .ok (.iload_n 3, 1) := by decide +kernel
theorem dX6_ends_44 : decode cX6_ends 44 = .ok (.invokevirtual 108, 3) := by decide +kernel
theorem dX6_ends_47 : decode cX6_ends 47 = .ok (.ifCond .eq 13, 3) := by decide +kernel
theorem dX6_ends_50 : decode cX6_ends 50 = .ok (.aload_n 0, 1) := by decide +kernel
theorem dX6_ends_51 : decode cX6_ends 51 = .ok (.getfield 30, 3) := by decide +kernel
theorem dX6_ends_54 : decode cX6_ends 54 = .ok (.invokevirtual 112, 3) := by decide +kernel
theorem dX6_ends_57 : decode cX6_ends 57 = .ok (.goto 5, 3) := by decide +kernel
theorem dX6_ends_60 : decode cX6_ends 60 = .ok (.bipush (-6), 2) := by decide +kernel
theorem dX6_ends_62 : decode cX6_ends 62 = .ok (.ireturn, 1) := by decide +kernel
theorem dX6_agree_0 : decode cX6_agree 0 = .ok (.iload_n 1, 1) := by decide +kernel
theorem dX6_agree_1 : decode cX6_agree 1 = .ok (.invokestatic 52, 3) := by decide +kernel
theorem dX6_agree_4 : decode cX6_agree 4 = .ok (.ifCond .ne 5, 3) := by decide +kernel
theorem dX6_agree_7 : decode cX6_agree 7 = .ok (.iconst (-1), 1) := by decide +kernel
theorem dX6_agree_8 : decode cX6_agree 8 = .ok (.ireturn, 1) := by decide +kernel
theorem dX6_agree_9 : decode cX6_agree 9 = .ok (.iload_n 2, 1) := by decide +kernel
theorem dX6_agree_10 : decode cX6_agree 10 = .ok (.invokestatic 105, 3) := by decide +kernel
theorem dX6_agree_13 : decode cX6_agree 13 = .ok (.ifCond .ne 6, 3) := by decide +kernel
theorem dX6_agree_16 : decode cX6_agree 16 = .ok (.bipush (-2), 2) := by decide +kernel
theorem dX6_agree_18 : decode cX6_agree 18 = .ok (.ireturn, 1) := by decide +kernel
theorem dX6_agree_19 : decode cX6_agree 19 = .ok (.aload_n 0, 1) := by decide +kernel
theorem dX6_agree_20 : decode cX6_agree 20 = .ok (.getfield 12, 3) := by decide +kernel
theorem dX6_agree_23 : decode cX6_agree 23 = .ok (.iload_n 1, 1) := by decide +kernel
theorem dX6_agree_24 : decode cX6_agree 24 = .ok (.bipush 54, 2) := by decide +kernel
theorem dX6_agree_26 : decode cX6_agree 26 = .ok (.invokevirtual 74, 3) := by decide +kernel
theorem dX6_agree_29 : decode cX6_agree 29 = .ok (.aload_n 0, 1) := by decide +kernel
theorem dX6_agree_30 : decode cX6_agree 30 = .ok (.getfield 12, 3) := by decide +kernel
theorem dX6_agree_33 : decode cX6_agree 33 = .ok (.iload_n 1, 1) := by decide +kernel
theorem dX6_agree_34 : decode cX6_agree 34 = .ok (.bipush 55, 2) := by decide +kernel
theorem dX6_agree_36 : decode cX6_agree 36 = .ok (.invokevirtual 74, 3) := by decide +kernel
theorem dX6_agree_39 : decode cX6_agree 39 = .ok (.aload_n 0, 1) := by decide +kernel
theorem dX6_agree_40 : decode cX6_agree 40 = .ok (.getfield 30, 3) := by decide +kernel
theorem dX6_agree_43 : decode cX6_agree 43 = .ok (.bipush 54, 2) := by decide +kernel
theorem dX6_agree_45 : decode cX6_agree 45 = .ok (.iconst 0, 1) := by decide +kernel
theorem dX6_agree_46 : decode cX6_agree 46 = .ok (.iload_n 2, 1) := by decide +kernel
theorem dX6_agree_47 : decode cX6_agree 47 = .ok (.invokevirtual 108, 3) := by decide +kernel
theorem dX6_agree_50 : decode cX6_agree 50 = .ok (.ifCond .eq 17, 3) := by decide +kernel
theorem dX6_agree_53 : decode cX6_agree 53 = .ok (.aload_n 0, 1) := by decide +kernel
theorem dX6_agree_54 : decode cX6_agree 54 = .ok (.getfield 30, 3) := by decide +kernel
theorem dX6_agree_57 : decode cX6_agree 57 = .ok (.bipush 55, 2) := by decide +kernel
theorem dX6_agree_59 : decode cX6_agree 59 = .ok (.iconst 1, 1) := by decide +kernel
theorem dX6_agree_60 : decode cX6_agree 60 = .ok (.iload_n 2, 1) := by decide +kernel
theorem dX6_agree_61 : decode cX6_agree 61 = .ok (.invokevirtual 108, 3) := by decide +kernel
theorem dX6_agree_64 : decode cX6_agree 64 = .ok (.ifCond .ne 6, 3) := by decide +kernel
theorem dX6_agree_67 : decode cX6_agree 67 = .ok (.bipush (-6), 2) := by decide +kernel
theorem dX6_agree_69 : decode cX6_agree 69 = .ok (.ireturn, 1) := by decide +kernel
theorem dX6_agree_70 : decode cX6_agree 70 = .ok (.aload_n 0, 1) := by decide +kernel
theorem dX6_agree_71 : decode cX6_agree 71 = .ok (.getfield 12, 3) := by decide +kernel
theorem dX6_agree_74 : decode cX6_agree 74 = .ok (.bipush 54, 2) := by decide +kernel
theorem dX6_agree_76 : decode cX6_agree 76 = .ok (.bipush 55, 2) := by decide +kernel
theorem dX6_agree_78 : decode cX6_agree 78 = .ok (.invokevirtual 145, 3) := by decide +kernel
theorem dX6_agree_81 : decode cX6_agree 81 = .ok (.ifCond .eq 7, 3) := by decide +kernel
theorem dX6_agree_84 : decode cX6_agree 84 = .ok (.iconst 1, 1) := by decide +kernel
theorem dX6_agree_85 : decode cX6_agree 85 = .ok (.goto 4, 3) := by decide +kernel
theorem dX6_agree_88 : decode cX6_agree 88 = .ok (.iconst 0, 1) := by decide +kernel
theorem dX6_agree_89 : decode cX6_agree 89 = .ok (.ireturn, 1) := by decide +kernel
theorem dX6_most_0 : decode cX6_most 0 = .ok (.iload_n 1, 1) := by decide +kernel
theorem dX6_most_1 : decode cX6_most 1 = .ok (.invokestatic 52, 3) := by decide +kernel
theorem dX6_most_4 : decode cX6_most 4 = .ok (.ifCond .ne 5, 3) := by decide +kernel
theorem dX6_most_7 : decode cX6_most 7 = .ok (.iconst (-1), 1) := by decide +kernel
theorem dX6_most_8 : decode cX6_most 8 = .ok (.ireturn, 1) := by decide +kernel
theorem dX6_most_9 : decode cX6_most 9 = .ok (.iload_n 2, 1) := by decide +kernel
theorem dX6_most_10 : decode cX6_most 10 = .ok (.invokestatic 90, 3) := by decide +kernel
theorem dX6_most_13 : decode cX6_most 13 = .ok (.ifCond .eq 10, 3) := by decide +kernel
theorem dX6_most_16 : decode cX6_most 16 = .ok (.iload_n 3, 1) := by decide +kernel
theorem dX6_most_17 : decode cX6_most 17 = .ok (.invokestatic 105, 3) := by decide +kernel
theorem dX6_most_20 : decode cX6_most 20 = .ok (.ifCond .ne 6, 3) := by decide +kernel
theorem dX6_most_23 : decode cX6_most 23 = .ok (.bipush (-2), 2) := by decide +kernel
theorem dX6_most_25 : decode cX6_most 25 = .ok (.ireturn, 1) := by decide +kernel
theorem dX6_most_26 : decode cX6_most 26 = .ok (.aload_n 0, 1) := by decide +kernel
theorem dX6_most_27 : decode cX6_most 27 = .ok (.getfield 12, 3) := by decide +kernel
theorem dX6_most_30 : decode cX6_most 30 = .ok (.iload_n 1, 1) := by decide +kernel
theorem dX6_most_31 : decode cX6_most 31 = .ok (.bipush 54, 2) := by decide +kernel
theorem dX6_most_33 : decode cX6_most 33 = .ok (.invokevirtual 74, 3) := by decide +kernel
theorem dX6_most_36 : decode cX6_most 36 = .ok (.aload_n 0, 1) := by decide +kernel
theorem dX6_most_37 : decode cX6_most 37 = .ok (.getfield 30, 3) := by decide +kernel
theorem dX6_most_40 : decode cX6_most 40 = .ok (.bipush 54, 2) := by decide +kernel
theorem dX6_most_42 : decode cX6_most 42 = .ok (.iload_n 2, 1) := by decide +kernel
theorem dX6_most_43 : decode cX6_most 43 = .ok (.iload_n 3, 1) := by decide +kernel
theorem dX6_most_44 : decode cX6_most 44 = .ok (.invokevirtual 108, 3) := by decide +kernel
theorem dX6_most_47 : decode cX6_most 47 = .ok (.pop, 1) := by decide +kernel
theorem dX6_most_48 : decode cX6_most 48 = .ok (.aload_n 0, 1) := by decide +kernel
theorem dX6_most_49 : decode cX6_most 49 = .ok (.getfield 30, 3) := by decide +kernel
theorem dX6_most_52 : decode cX6_most 52 = .ok (.invokevirtual 158, 3) := by decide +kernel
theorem dX6_most_55 : decode cX6_most 55 = .ok (.ireturn, 1) := by decide +kernel
theorem dX6_alike_0 : decode cX6_alike 0 = .ok (.iload_n 1, 1) := by decide +kernel
theorem dX6_alike_1 : decode cX6_alike 1 = .ok (.invokestatic 52, 3) := by decide +kernel
theorem dX6_alike_4 : decode cX6_alike 4 = .ok (.ifCond .eq 10, 3) := by decide +kernel
theorem dX6_alike_7 : decode cX6_alike 7 = .ok (.iload_n 2, 1) := by decide +kernel
theorem dX6_alike_8 : decode cX6_alike 8 = .ok (.invokestatic 52, 3) := by decide +kernel
theorem dX6_alike_11 : decode cX6_alike 11 = .ok (.ifCond .ne 5, 3) := by decide +kernel
theorem dX6_alike_14 : decode cX6_alike 14 = .ok (.iconst (-1), 1) := by decide +kernel
theorem dX6_alike_15 : decode cX6_alike 15 = .ok (.ireturn, 1) := by decide +kernel
theorem dX6_alike_16 : decode cX6_alike 16 = .ok (.iload_n 3, 1) := by decide +kernel
theorem dX6_alike_17 : decode cX6_alike 17 = .ok (.invokestatic 105, 3) := by decide +kernel
theorem dX6_alike_20 : decode cX6_alike 20 = .ok (.ifCond .ne 6, 3) := by decide +kernel
theorem dX6_alike_23 : decode cX6_alike 23 = .ok (.bipush (-2), 2) := by decide +kernel
theorem dX6_alike_25 : decode cX6_alike 25 = .ok (.ireturn, 1) := by decide +kernel
theorem dX6_alike_26 : decode cX6_alike 26 = .ok (.aload_n 0, 1) := by decide +kernel
theorem dX6_alike_27 : decode cX6_alike 27 = .ok (.getfield 12, 3) := by decide +kernel
theorem dX6_alike_30 : decode cX6_alike 30 = .ok (.iload_n 1, 1) := by decide +kernel
theorem dX6_alike_31 : decode cX6_alike 31 = .ok (.bipush 54, 2) := by decide +kernel
theorem dX6_alike_33 : decode cX6_alike 33 = .ok (.invokevirtual 74, 3) := by decide +kernel
theorem dX6_alike_36 : decode cX6_alike 36 = .ok (.aload_n 0, 1) := by decide +kernel
theorem dX6_alike_37 : decode cX6_alike 37 = .ok (.getfield 12, 3) := by decide +kernel
theorem dX6_alike_40 : decode cX6_alike 40 = .ok (.iload_n 2, 1) := by decide +kernel
theorem dX6_alike_41 : decode cX6_alike 41 = .ok (.bipush 55, 2) := by decide +kernel
theorem dX6_alike_43 : decode cX6_alike 43 = .ok (.invokevirtual 74, 3) := by decide +kernel
theorem dX6_alike_46 : decode cX6_alike 46 = .ok (.aload_n 0, 1) := by decide +kernel
theorem dX6_alike_47 : decode cX6_alike 47 = .ok (.getfield 30, 3) := by decide +kernel
theorem dX6_alike_50 : decode cX6_alike 50 = .ok (.bipush 54, 2) := by decide +kernel
theorem dX6_alike_52 : decode cX6_alike 52 = .ok (.iconst 0, 1) := by decide +kernel
theorem dX6_alike_53 : decode cX6_alike 53 = .ok (.iload_n 3, 1) := by decide +kernel
theorem dX6_alike_54 : decode cX6_alike 54 = .ok (.invokevirtual 108, 3) := by decide +kernel
theorem dX6_alike_57 : decode cX6_alike 57 = .ok (.ifCond .eq 17, 3) := by decide +kernel
theorem dX6_alike_60 : decode cX6_alike 60 = .ok (.aload_n 0, 1) := by decide +kernel
theorem dX6_alike_61 : decode cX6_alike 61 = .ok (.getfield 30, 3) := by decide +kernel
theorem dX6_alike_64 : decode cX6_alike 64 = .ok (.bipush 55, 2) := by decide +kernel
theorem dX6_alike_66 : decode cX6_alike 66 = .ok (.iconst 0, 1) := by decide +kernel
theorem dX6_alike_67 : decode cX6_alike 67 = .ok (.iload_n 3, 1) := by decide +kernel
theorem dX6_alike_68 : decode cX6_alike 68 = .ok (.invokevirtual 108, 3) := by decide +kernel
theorem dX6_alike_71 : decode cX6_alike 71 = .ok (.ifCond .ne 6, 3) := by decide +kernel
theorem dX6_alike_74 : decode cX6_alike 74 = .ok (.bipush (-6), 2) := by decide +kernel
theorem dX6_alike_76 : decode cX6_alike 76 = .ok (.ireturn, 1) := by decide +kernel
theorem dX6_alike_77 : decode cX6_alike 77 = .ok (.aload_n 0, 1) := by decide +kernel
theorem dX6_alike_78 : decode cX6_alike 78 = .ok (.getfield 12, 3) := by decide +kernel
theorem dX6_alike_81 : decode cX6_alike 81 = .ok (.bipush 54, 2) := by decide +kernel
theorem dX6_alike_83 : decode cX6_alike 83 = .ok (.bipush 55, 2) := by decide +kernel
theorem dX6_alike_85 : decode cX6_alike 85 = .ok (.invokevirtual 145, 3) := by decide +kernel
theorem dX6_alike_88 : decode cX6_alike 88 = .ok (.ifCond .eq 7, 3) := by decide +kernel
theorem dX6_alike_91 : decode cX6_alike 91 = .ok (.iconst 1, 1) := by decide +kernel
theorem dX6_alike_92 : decode cX6_alike 92 = .ok (.goto 4, 3) := by decide +kernel
theorem dX6_alike_95 : decode cX6_alike 95 = .ok (.iconst 0, 1) := by decide +kernel
theorem dX6_alike_96 : decode cX6_alike 96 = .ok (.ireturn, 1) := by decide +kernel
theorem dX6_put_0 : decode cX6_put 0 = .ok (.lload_n 1, 1) := by decide +kernel
theorem dX6_put_1 : decode cX6_put 1 = .ok (.invokestatic 161, 3) := by decide +kernel
theorem dX6_put_4 : decode cX6_put 4 = .ok (.istore_n 3, 1) := by decide +kernel
theorem dX6_put_5 : decode cX6_put 5 = .ok (.iload_n 3, 1) := by decide +kernel
theorem dX6_put_6 : decode cX6_put 6 = .ok (.ifCond .ne 6, 3) := by decide +kernel
theorem dX6_put_9 : decode cX6_put 9 = .ok (.bipush (-2), 2) := by decide +kernel
theorem dX6_put_11 : decode cX6_put 11 = .ok (.ireturn, 1) := by decide +kernel
theorem dX6_put_12 : decode cX6_put 12 = .ok (.aload_n 0, 1) := by decide +kernel
theorem dX6_put_13 : decode cX6_put 13 = .ok (.getfield 44, 3) := by decide +kernel
theorem dX6_put_16 : decode cX6_put 16 = .ok (.invokevirtual 155, 3) := by decide +kernel
theorem dX6_put_19 : decode cX6_put 19 = .ok (.iload_n 3, 1) := by decide +kernel
theorem dX6_put_20 : decode cX6_put 20 = .ok (.iadd, 1) := by decide +kernel
theorem dX6_put_21 : decode cX6_put 21 = .ok (.bipush 60, 2) := by decide +kernel
theorem dX6_put_23 : decode cX6_put 23 = .ok (.if_icmp .le 6, 3) := by decide +kernel
theorem dX6_put_26 : decode cX6_put 26 = .ok (.bipush (-4), 2) := by decide +kernel
theorem dX6_put_28 : decode cX6_put 28 = .ok (.ireturn, 1) := by decide +kernel
theorem dX6_put_29 : decode cX6_put 29 = .ok (.aload_n 0, 1) := by decide +kernel
theorem dX6_put_30 : decode cX6_put 30 = .ok (.getfield 44, 3) := by decide +kernel
theorem dX6_put_33 : decode cX6_put 33 = .ok (.lload_n 1, 1) := by decide +kernel
theorem dX6_put_34 : decode cX6_put 34 = .ok (.iload_n 3, 1) := by decide +kernel
theorem dX6_put_35 : decode cX6_put 35 = .ok (.invokevirtual 165, 3) := by decide +kernel
theorem dX6_put_38 : decode cX6_put 38 = .ok (.aload_n 0, 1) := by decide +kernel
theorem dX6_put_39 : decode cX6_put 39 = .ok (.getfield 44, 3) := by decide +kernel
theorem dX6_put_42 : decode cX6_put 42 = .ok (.invokevirtual 155, 3) := by decide +kernel
theorem dX6_put_45 : decode cX6_put 45 = .ok (.ireturn, 1) := by decide +kernel
theorem dX6_wipe_0 : decode cX6_wipe 0 = .ok (.aload_n 0, 1) := by decide +kernel
theorem dX6_wipe_1 : decode cX6_wipe 1 = .ok (.getfield 44, 3) := by decide +kernel
theorem dX6_wipe_4 : decode cX6_wipe 4 = .ok (.invokevirtual 155, 3) := by decide +kernel
theorem dX6_wipe_7 : decode cX6_wipe 7 = .ok (.istore_n 1, 1) := by decide +kernel
theorem dX6_wipe_8 : decode cX6_wipe 8 = .ok (.aload_n 0, 1) := by decide +kernel
theorem dX6_wipe_9 : decode cX6_wipe 9 = .ok (.getfield 44, 3) := by decide +kernel
theorem dX6_wipe_12 : decode cX6_wipe 12 = .ok (.invokevirtual 67, 3) := by decide +kernel
theorem dX6_wipe_15 : decode cX6_wipe 15 = .ok (.iload_n 1, 1) := by decide +kernel
theorem dX6_wipe_16 : decode cX6_wipe 16 = .ok (.ireturn, 1) := by decide +kernel
theorem dX6_fault_0 : decode cX6_fault 0 = .ok (.aload_n 0, 1) := by decide +kernel
theorem dX6_fault_1 : decode cX6_fault 1 = .ok (.getfield 44, 3) := by decide +kernel
theorem dX6_fault_4 : decode cX6_fault 4 = .ok (.invokevirtual 56, 3) := by decide +kernel
theorem dX6_fault_7 : decode cX6_fault 7 = .ok (.ireturn, 1) := by decide +kernel
theorem dX6_undo_0 : decode cX6_undo 0 = .ok (.aload_n 0, 1) := by decide +kernel
theorem dX6_undo_1 : decode cX6_undo 1 = .ok (.getfield 37, 3) := by decide +kernel
theorem dX6_undo_4 : decode cX6_undo 4 = .ok (.invokevirtual 157, 3) := by decide +kernel
theorem dX6_undo_7 : decode cX6_undo 7 = .ok (.ifCond .ne 6, 3) := by decide +kernel
theorem dX6_undo_10 : decode cX6_undo 10 = .ok (.bipush (-5), 2) := by decide +kernel
theorem dX6_undo_12 : decode cX6_undo 12 = .ok (.ireturn, 1) := by decide +kernel
theorem dX6_undo_13 : decode cX6_undo 13 = .ok (.aload_n 0, 1) := by decide +kernel
theorem dX6_undo_14 : decode cX6_undo 14 = .ok (.getfield 37, 3) := by decide +kernel
theorem dX6_undo_17 : decode cX6_undo 17 = .ok (.invokevirtual 168, 3) := by decide +kernel
theorem dX6_undo_20 : decode cX6_undo 20 = .ok (.aload_n 0, 1) := by decide +kernel
theorem dX6_undo_21 : decode cX6_undo 21 = .ok (.getfield 37, 3) := by decide +kernel
theorem dX6_undo_24 : decode cX6_undo 24 = .ok (.invokevirtual 157, 3) := by decide +kernel
theorem dX6_undo_27 : decode cX6_undo 27 = .ok (.ireturn, 1) := by decide +kernel
theorem dX6_save_0 : decode cX6_save 0 = .ok (.iload_n 1, 1) := by decide +kernel
theorem dX6_save_1 : decode cX6_save 1 = .ok (.invokestatic 171, 3) := by decide +kernel
theorem dX6_save_4 : decode cX6_save 4 = .ok (.ifCond .ne 6, 3) := by decide +kernel
theorem dX6_save_7 : decode cX6_save 7 = .ok (.bipush (-2), 2) := by decide +kernel
theorem dX6_save_9 : decode cX6_save 9 = .ok (.ireturn, 1) := by decide +kernel
theorem dX6_save_10 : decode cX6_save 10 = .ok (.aload_n 0, 1) := by decide +kernel
theorem dX6_save_11 : decode cX6_save 11 = .ok (.getfield 12, 3) := by decide +kernel
theorem dX6_save_14 : decode cX6_save 14 = .ok (.iconst 0, 1) := by decide +kernel
theorem dX6_save_15 : decode cX6_save 15 = .ok (.bipush 7, 2) := by decide +kernel
theorem dX6_save_17 : decode cX6_save 17 = .ok (.iload_n 1, 1) := by decide +kernel
theorem dX6_save_18 : decode cX6_save 18 = .ok (.iadd, 1) := by decide +kernel
theorem dX6_save_19 : decode cX6_save 19 = .ok (.invokevirtual 174, 3) := by decide +kernel
theorem dX6_save_22 : decode cX6_save 22 = .ok (.aload_n 0, 1) := by decide +kernel
theorem dX6_save_23 : decode cX6_save 23 = .ok (.getfield 12, 3) := by decide +kernel
theorem dX6_save_26 : decode cX6_save 26 = .ok (.iconst 0, 1) := by decide +kernel
theorem dX6_save_27 : decode cX6_save 27 = .ok (.invokevirtual 149, 3) := by decide +kernel
theorem dX6_save_30 : decode cX6_save 30 = .ok (.ireturn, 1) := by decide +kernel
theorem dX6_restore_0 : decode cX6_restore 0 = .ok (.iload_n 1, 1) := by decide +kernel
theorem dX6_restore_1 : decode cX6_restore 1 = .ok (.invokestatic 171, 3) := by decide +kernel
theorem dX6_restore_4 : decode cX6_restore 4 = .ok (.ifCond .ne 6, 3) := by decide +kernel
theorem dX6_restore_7 : decode cX6_restore 7 = .ok (.bipush (-2), 2) := by decide +kernel
theorem dX6_restore_9 : decode cX6_restore 9 = .ok (.ireturn, 1) := by decide +kernel
theorem dX6_restore_10 : decode cX6_restore 10 = .ok (.aload_n 0, 1) := by decide +kernel
theorem dX6_restore_11 : decode cX6_restore 11 = .ok (.getfield 12, 3) := by decide +kernel
theorem dX6_restore_14 : decode cX6_restore 14 = .ok (.bipush 7, 2) := by decide +kernel
theorem dX6_restore_16 : decode cX6_restore 16 = .ok (.iload_n 1, 1) := by decide +kernel
theorem dX6_restore_17 : decode cX6_restore 17 = .ok (.iadd, 1) := by decide +kernel
theorem dX6_restore_18 : decode cX6_restore 18 = .ok (.invokevirtual 149, 3) := by decide +kernel
theorem dX6_restore_21 : decode cX6_restore 21 = .ok (.ifCond .ne 6, 3) := by decide +kernel
theorem dX6_restore_24 : decode cX6_restore 24 = .ok (.bipush (-5), 2) := by decide +kernel
theorem dX6_restore_26 : decode cX6_restore 26 = .ok (.ireturn, 1) := by decide +kernel
theorem dX6_restore_27 : decode cX6_restore 27 = .ok (.aload_n 0, 1) := by decide +kernel
theorem dX6_restore_28 : decode cX6_restore 28 = .ok (.getfield 37, 3) := by decide +kernel
theorem dX6_restore_31 : decode cX6_restore 31 = .ok (.invokevirtual 60, 3) := by decide +kernel
theorem dX6_restore_34 : decode cX6_restore 34 = .ok (.aload_n 0, 1) := by decide +kernel
theorem dX6_restore_35 : decode cX6_restore 35 = .ok (.getfield 12, 3) := by decide +kernel
theorem dX6_restore_38 : decode cX6_restore 38 = .ok (.bipush 7, 2) := by decide +kernel
theorem dX6_restore_40 : decode cX6_restore 40 = .ok (.iload_n 1, 1) := by decide +kernel
theorem dX6_restore_41 : decode cX6_restore 41 = .ok (.iadd, 1) := by decide +kernel
theorem dX6_restore_42 : decode cX6_restore 42 = .ok (.iconst 0, 1) := by decide +kernel
theorem dX6_restore_43 : decode cX6_restore 43 = .ok (.invokevirtual 174, 3) := by decide +kernel
theorem dX6_restore_46 : decode cX6_restore 46 = .ok (.aload_n 0, 1) := by decide +kernel
theorem dX6_restore_47 : decode cX6_restore 47 = .ok (.getfield 12, 3) := by decide +kernel
theorem dX6_restore_50 : decode cX6_restore 50 = .ok (.iconst 0, 1) := by decide +kernel
theorem dX6_restore_51 : decode cX6_restore 51 = .ok (.invokevirtual 149, 3) := by decide +kernel
theorem dX6_restore_54 : decode cX6_restore 54 = .ok (.ireturn, 1) := by decide +kernel
theorem dX6_isRegister_0 : decode cX6_isRegister 0 = .ok (.iload_n 0, 1) := by decide +kernel
theorem dX6_isRegister_1 : decode cX6_isRegister 1 = .ok (.ifCond .lt 13, 3) := by decide +kernel
theorem dX6_isRegister_4 : decode cX6_isRegister 4 = .ok (.iload_n 0, 1) := by decide +kernel
theorem dX6_isRegister_5 : decode cX6_isRegister 5 = .ok (.bipush 6, 2) := by decide +kernel
theorem dX6_isRegister_7 : decode cX6_isRegister 7 = .ok (.if_icmp .ge 7, 3) := by decide +kernel
theorem dX6_isRegister_10 : decode cX6_isRegister 10 = .ok (.iconst 1, 1) := by decide +kernel
theorem dX6_isRegister_11 : decode cX6_isRegister 11 = .ok (.goto 4, 3) := by decide +kernel
theorem dX6_isRegister_14 : decode cX6_isRegister 14 = .ok (.iconst 0, 1) := by decide +kernel
theorem dX6_isRegister_15 : decode cX6_isRegister 15 = .ok (.ireturn, 1) := by decide +kernel
theorem dX6_isOrder_0 : decode cX6_isOrder 0 = .ok (.iload_n 0, 1) := by decide +kernel
theorem dX6_isOrder_1 : decode cX6_isOrder 1 = .ok (.ifCond .lt 12, 3) := by decide +kernel
theorem dX6_isOrder_4 : decode cX6_isOrder 4 = .ok (.iload_n 0, 1) := by decide +kernel
theorem dX6_isOrder_5 : decode cX6_isOrder 5 = .ok (.iconst 2, 1) := by decide +kernel
theorem dX6_isOrder_6 : decode cX6_isOrder 6 = .ok (.if_icmp .gt 7, 3) := by decide +kernel
theorem dX6_isOrder_9 : decode cX6_isOrder 9 = .ok (.iconst 1, 1) := by decide +kernel
theorem dX6_isOrder_10 : decode cX6_isOrder 10 = .ok (.goto 4, 3) := by decide +kernel
theorem dX6_isOrder_13 : decode cX6_isOrder 13 = .ok (.iconst 0, 1) := by decide +kernel
theorem dX6_isOrder_14 : decode cX6_isOrder 14 = .ok (.ireturn, 1) := by decide +kernel
theorem dX6_isFuel_0 : decode cX6_isFuel 0 = .ok (.iload_n 0, 1) := by decide +kernel
theorem dX6_isFuel_1 : decode cX6_isFuel 1 = .ok (.iconst 1, 1) := by decide +kernel
theorem dX6_isFuel_2 : decode cX6_isFuel 2 = .ok (.if_icmp .lt 14, 3) := by decide +kernel
theorem dX6_isFuel_5 : decode cX6_isFuel 5 = .ok (.iload_n 0, 1) := by decide +kernel
theorem dX6_isFuel_6 : decode cX6_isFuel 6 = .ok (.sipush 200, 3) := by decide +kernel
theorem dX6_isFuel_9 : decode cX6_isFuel 9 = .ok (.if_icmp .gt 7, 3) := by decide +kernel
theorem dX6_isFuel_12 : decode cX6_isFuel 12 = .ok (.iconst 1, 1) := by decide +kernel
theorem dX6_isFuel_13 : decode cX6_isFuel 13 = .ok (.goto 4, 3) := by decide +kernel
theorem dX6_isFuel_16 : decode cX6_isFuel 16 = .ok (.iconst 0, 1) := by decide +kernel
theorem dX6_isFuel_17 : decode cX6_isFuel 17 = .ok (.ireturn, 1) := by decide +kernel
theorem dX6_isSlot_0 : decode cX6_isSlot 0 = .ok (.iload_n 0, 1) := by decide +kernel
theorem dX6_isSlot_1 : decode cX6_isSlot 1 = .ok (.ifCond .lt 12, 3) := by decide +kernel
theorem dX6_isSlot_4 : decode cX6_isSlot 4 = .ok (.iload_n 0, 1) := by decide +kernel
theorem dX6_isSlot_5 : decode cX6_isSlot 5 = .ok (.iconst 2, 1) := by decide +kernel
theorem dX6_isSlot_6 : decode cX6_isSlot 6 = .ok (.if_icmp .ge 7, 3) := by decide +kernel
theorem dX6_isSlot_9 : decode cX6_isSlot 9 = .ok (.iconst 1, 1) := by decide +kernel
theorem dX6_isSlot_10 : decode cX6_isSlot 10 = .ok (.goto 4, 3) := by decide +kernel
theorem dX6_isSlot_13 : decode cX6_isSlot 13 = .ok (.iconst 0, 1) := by decide +kernel
theorem dX6_isSlot_14 : decode cX6_isSlot 14 = .ok (.ireturn, 1) := by decide +kernel
theorem dX6_draftFunction_0 : decode cX6_draftFunction 0 = .ok (.aload_n 0, 1) := by decide +kernel
theorem dX6_draftFunction_1 : decode cX6_draftFunction 1 = .ok (.getfield 21, 3) := by decide +kernel
theorem dX6_draftFunction_4 : decode cX6_draftFunction 4 = .ok (.iload_n 1, 1) := by decide +kernel
theorem dX6_draftFunction_5 : decode cX6_draftFunction 5 = .ok (.invokevirtual 93, 3) := by decide +kernel
theorem dX6_draftFunction_8 : decode cX6_draftFunction 8 = .ok (.aload_n 0, 1) := by decide +kernel
theorem dX6_draftFunction_9 : decode cX6_draftFunction 9 = .ok (.getfield 12, 3) := by decide +kernel
theorem dX6_draftFunction_12 : decode cX6_draftFunction 12 = .ok (.bipush 56, 2) := by decide +kernel
theorem dX6_draftFunction_14 : decode cX6_draftFunction 14 = .ok (.invokevirtual 78, 3) := by decide +kernel
theorem dX6_draftFunction_17 : decode cX6_draftFunction 17 = .ok (.aload_n 0, 1) := by decide +kernel
theorem dX6_draftFunction_18 : decode cX6_draftFunction 18 = .ok (.getfield 12, 3) := by decide +kernel
theorem dX6_draftFunction_21 : decode cX6_draftFunction 21 = .ok (.bipush 56, 2) := by decide +kernel
theorem dX6_draftFunction_23 : decode cX6_draftFunction 23 = .ok (.iconst 2, 1) := by decide +kernel
theorem dX6_draftFunction_24 : decode cX6_draftFunction 24 = .ok (.iconst 0, 1) := by decide +kernel
theorem dX6_draftFunction_25 : decode cX6_draftFunction 25 = .ok (.invokevirtual 48, 3) := by decide +kernel
theorem dX6_draftFunction_28 : decode cX6_draftFunction 28 = .ok (.aload_n 0, 1) := by decide +kernel
theorem dX6_draftFunction_29 : decode cX6_draftFunction 29 = .ok (.getfield 12, 3) := by decide +kernel
theorem dX6_draftFunction_32 : decode cX6_draftFunction 32 = .ok (.iload_n 1, 1) := by decide +kernel
theorem dX6_draftFunction_33 : decode cX6_draftFunction 33 = .ok (.invokevirtual 70, 3) := by decide +kernel
theorem dX6_draftFunction_36 : decode cX6_draftFunction 36 = .ok (.istore_n 3, 1) := by decide +kernel
theorem dX6_draftFunction_37 : decode cX6_draftFunction 37 = .ok (.iconst 0, 1) := by decide +kernel
theorem dX6_draftFunction_38 : decode cX6_draftFunction 38 = .ok (.istore 4, 2) := by decide +kernel
theorem dX6_draftFunction_40 : decode cX6_draftFunction 40 = .ok (.iconst 0, 1) := by decide +kernel
theorem dX6_draftFunction_41 : decode cX6_draftFunction 41 = .ok (.istore 5, 2) := by decide +kernel
theorem dX6_draftFunction_43 : decode cX6_draftFunction 43 = .ok (.iload 5, 2) := by decide +kernel
theorem dX6_draftFunction_45 : decode cX6_draftFunction 45 = .ok (.iload_n 3, 1) := by decide +kernel
theorem dX6_draftFunction_46 : decode cX6_draftFunction 46 = .ok (.if_icmp .ge 83, 3) := by decide +kernel
theorem dX6_draftFunction_49 : decode cX6_draftFunction 49 = .ok (.aload_n 0, 1) := by decide +kernel
theorem dX6_draftFunction_50 : decode cX6_draftFunction 50 = .ok (.getfield 12, 3) := by decide +kernel
theorem dX6_draftFunction_53 : decode cX6_draftFunction 53 = .ok (.iload_n 1, 1) := by decide +kernel
theorem dX6_draftFunction_54 : decode cX6_draftFunction 54 = .ok (.iload 5, 2) := by decide +kernel
theorem dX6_draftFunction_56 : decode cX6_draftFunction 56 = .ok (.invokevirtual 127, 3) := by decide +kernel
theorem dX6_draftFunction_59 : decode cX6_draftFunction 59 = .ok (.istore 6, 2) := by decide +kernel
theorem dX6_draftFunction_61 : decode cX6_draftFunction 61 = .ok (.aload_n 0, 1) := by decide +kernel
theorem dX6_draftFunction_62 : decode cX6_draftFunction 62 = .ok (.getfield 12, 3) := by decide +kernel
theorem dX6_draftFunction_65 : decode cX6_draftFunction 65 = .ok (.iload_n 1, 1) := by decide +kernel
theorem dX6_draftFunction_66 : decode cX6_draftFunction 66 = .ok (.iload 5, 2) := by decide +kernel
theorem dX6_draftFunction_68 : decode cX6_draftFunction 68 = .ok (.invokevirtual 130, 3) := by decide +kernel
theorem dX6_draftFunction_71 : decode cX6_draftFunction 71 = .ok (.istore 7, 2) := by decide +kernel
theorem dX6_draftFunction_73 : decode cX6_draftFunction 73 = .ok (.iload 6, 2) := by decide +kernel
theorem dX6_draftFunction_75 : decode cX6_draftFunction 75 = .ok (.iconst 1, 1) := by decide +kernel
theorem dX6_draftFunction_76 : decode cX6_draftFunction 76 = .ok (.if_icmp .ne 34, 3) := by decide +kernel
theorem dX6_draftFunction_79 : decode cX6_draftFunction 79 = .ok (.iload 7, 2) := by decide +kernel
theorem dX6_draftFunction_81 : decode cX6_draftFunction 81 = .ok (.iload_n 2, 1) := by decide +kernel
theorem dX6_draftFunction_82 : decode cX6_draftFunction 82 = .ok (.if_icmp .ne 28, 3) := by decide +kernel
theorem dX6_draftFunction_85 : decode cX6_draftFunction 85 = .ok (.aload_n 0, 1) := by decide +kernel
theorem dX6_draftFunction_86 : decode cX6_draftFunction 86 = .ok (.getfield 12, 3) := by decide +kernel
theorem dX6_draftFunction_89 : decode cX6_draftFunction 89 = .ok (.bipush 56, 2) := by decide +kernel
theorem dX6_draftFunction_91 : decode cX6_draftFunction 91 = .ok (.iconst 0, 1) := by decide +kernel
theorem dX6_draftFunction_92 : decode cX6_draftFunction 92 = .ok (.aload_n 0, 1) := by decide +kernel
theorem dX6_draftFunction_93 : decode cX6_draftFunction 93 = .ok (.getfield 21, 3) := by decide +kernel
theorem dX6_draftFunction_96 : decode cX6_draftFunction 96 = .ok (.iload 5, 2) := by decide +kernel
theorem dX6_draftFunction_98 : decode cX6_draftFunction 98 = .ok (.invokevirtual 133, 3) := by decide +kernel
theorem dX6_draftFunction_101 : decode cX6_draftFunction 101 = .ok (.invokevirtual 48, 3) := by decide +kernel
theorem dX6_draftFunction_104 : decode cX6_draftFunction 104 = .ok (.iinc 4 1, 3) := by decide +kernel
theorem dX6_draftFunction_107 : decode cX6_draftFunction 107 = .ok (.goto 16, 3) := by decide +kernel
theorem dX6_draftFunction_110 : decode cX6_draftFunction 110 = .ok (.aload_n 0, 1) := by decide +kernel
theorem dX6_draftFunction_111 : decode cX6_draftFunction 111 = .ok (.getfield 12, 3) := by decide +kernel
theorem dX6_draftFunction_114 : decode cX6_draftFunction 114 = .ok (.bipush 56, 2) := by decide +kernel
theorem dX6_draftFunction_116 : decode cX6_draftFunction 116 = .ok (.iload 6, 2) := by decide +kernel
theorem dX6_draftFunction_118 : decode cX6_draftFunction 118 = .ok (.iload 7, 2) := by decide +kernel
theorem dX6_draftFunction_120 : decode cX6_draftFunction 120 = .ok (.invokevirtual 48, 3) := by decide +kernel
theorem dX6_draftFunction_123 : decode cX6_draftFunction 123 = .ok (.iinc 5 1, 3) := by decide +kernel
theorem dX6_draftFunction_126 : decode cX6_draftFunction 126 = .ok (.goto (-83), 3) := by decide +kernel
theorem dX6_draftFunction_129 : decode cX6_draftFunction 129 = .ok (.iload 4, 2) := by decide +kernel
theorem dX6_draftFunction_131 : decode cX6_draftFunction 131 = .ok (.ireturn, 1) := by decide +kernel
theorem dX6_registersAtRest_0 : decode cX6_registersAtRest 0 = .ok (.iconst 0, 1) := by decide +kernel
theorem dX6_registersAtRest_1 : decode cX6_registersAtRest 1 = .ok (.istore_n 1, 1) := by decide +kernel
theorem dX6_registersAtRest_2 : decode cX6_registersAtRest 2 = .ok (.iconst 0, 1) := by decide +kernel
theorem dX6_registersAtRest_3 : decode cX6_registersAtRest 3 = .ok (.istore_n 2, 1) := by decide +kernel
theorem dX6_registersAtRest_4 : decode cX6_registersAtRest 4 = .ok (.iload_n 2, 1) := by decide +kernel
theorem dX6_registersAtRest_5 : decode cX6_registersAtRest 5 = .ok (.bipush 6, 2) := by decide +kernel
theorem dX6_registersAtRest_7 : decode cX6_registersAtRest 7 = .ok (.if_icmp .ge 36, 3) := by decide +kernel
theorem dX6_registersAtRest_10 : decode cX6_registersAtRest 10 = .ok (.aload_n 0, 1) := by decide +kernel
theorem dX6_registersAtRest_11 : decode cX6_registersAtRest 11 = .ok (.getfield 21, 3) := by decide +kernel
theorem dX6_registersAtRest_14 : decode cX6_registersAtRest 14 = .ok (.iload_n 2, 1) := by decide +kernel
theorem dX6_registersAtRest_15 : decode cX6_registersAtRest 15 = .ok (.invokevirtual 93, 3) := by decide +kernel
theorem dX6_registersAtRest_18 : decode cX6_registersAtRest 18 = .ok (.aload_n 0, 1) := by decide +kernel
theorem dX6_registersAtRest_19 : decode cX6_registersAtRest 19 = .ok (.getfield 21, 3) := by decide +kernel
theorem dX6_registersAtRest_22 : decode cX6_registersAtRest 22 = .ok (.iconst 0, 1) := by decide +kernel
theorem dX6_registersAtRest_23 : decode cX6_registersAtRest 23 = .ok (.invokevirtual 96, 3) := by decide +kernel
theorem dX6_registersAtRest_26 : decode cX6_registersAtRest 26 = .ok (.bipush (-6), 2) := by decide +kernel
theorem dX6_registersAtRest_28 : decode cX6_registersAtRest 28 = .ok (.if_icmp .ne 9, 3) := by decide +kernel
theorem dX6_registersAtRest_31 : decode cX6_registersAtRest 31 = .ok (.iload_n 1, 1) := by decide +kernel
theorem dX6_registersAtRest_32 : decode cX6_registersAtRest 32 = .ok (.iconst 1, 1) := by decide +kernel
theorem dX6_registersAtRest_33 : decode cX6_registersAtRest 33 = .ok (.iload_n 2, 1) := by decide +kernel
theorem dX6_registersAtRest_34 : decode cX6_registersAtRest 34 = .ok (.ishl, 1) := by decide +kernel
theorem dX6_registersAtRest_35 : decode cX6_registersAtRest 35 = .ok (.ior, 1) := by decide +kernel
theorem dX6_registersAtRest_36 : decode cX6_registersAtRest 36 = .ok (.istore_n 1, 1) := by decide +kernel
theorem dX6_registersAtRest_37 : decode cX6_registersAtRest 37 = .ok (.iinc 2 1, 3) := by decide +kernel
theorem dX6_registersAtRest_40 : decode cX6_registersAtRest 40 = .ok (.goto (-36), 3) := by decide +kernel
theorem dX6_registersAtRest_43 : decode cX6_registersAtRest 43 = .ok (.iload_n 1, 1) := by decide +kernel
theorem dX6_registersAtRest_44 : decode cX6_registersAtRest 44 = .ok (.ireturn, 1) := by decide +kernel
theorem dX7_init_0 : decode cX7_init 0 = .ok (.aload_n 0, 1) := by decide +kernel
theorem dX7_init_1 : decode cX7_init 1 = .ok (.invokespecial 1, 3) := by decide +kernel
theorem dX7_init_4 : decode cX7_init 4 = .ok (.aload_n 0, 1) := by decide +kernel
theorem dX7_init_5 : decode cX7_init 5 = .ok (.sipush 1206, 3) := by decide +kernel
theorem dX7_init_8 : decode cX7_init 8 = .ok (.newarray .int, 2) := by decide +kernel
theorem dX7_init_10 : decode cX7_init 10 = .ok (.putfield 7, 3) := by decide +kernel
theorem dX7_init_13 : decode cX7_init 13 = .ok (.aload_n 0, 1) := by decide +kernel
theorem dX7_init_14 : decode cX7_init 14 = .ok (.sipush 7236, 3) := by decide +kernel
theorem dX7_init_17 : decode cX7_init 17 = .ok (.newarray .int, 2) := by decide +kernel
theorem dX7_init_19 : decode cX7_init 19 = .ok (.putfield 13, 3) := by decide +kernel
theorem dX7_init_22 : decode cX7_init 22 = .ok (.aload_n 0, 1) := by decide +kernel
theorem dX7_init_23 : decode cX7_init 23 = .ok (.sipush 2412, 3) := by decide +kernel
theorem dX7_init_26 : decode cX7_init 26 = .ok (.newarray .int, 2) := by decide +kernel
theorem dX7_init_28 : decode cX7_init 28 = .ok (.putfield 16, 3) := by decide +kernel
theorem dX7_init_31 : decode cX7_init 31 = .ok (.aload_n 0, 1) := by decide +kernel
theorem dX7_init_32 : decode cX7_init 32 = .ok (.iconst 2, 1) := by decide +kernel
theorem dX7_init_33 : decode cX7_init 33 = .ok (.newarray .int, 2) := by decide +kernel
theorem dX7_init_35 : decode cX7_init 35 = .ok (.putfield 19, 3) := by decide +kernel
theorem dX7_init_38 : decode cX7_init 38 = .ok (.aload_n 0, 1) := by decide +kernel
theorem dX7_init_39 : decode cX7_init 39 = .ok (.bipush 60, 2) := by decide +kernel
theorem dX7_init_41 : decode cX7_init 41 = .ok (.newarray .int, 2) := by decide +kernel
theorem dX7_init_43 : decode cX7_init 43 = .ok (.putfield 22, 3) := by decide +kernel
theorem dX7_init_46 : decode cX7_init 46 = .ok (.aload_n 0, 1) := by decide +kernel
theorem dX7_init_47 : decode cX7_init 47 = .ok (.sipush 200, 3) := by decide +kernel
theorem dX7_init_50 : decode cX7_init 50 = .ok (.newarray .int, 2) := by decide +kernel
theorem dX7_init_52 : decode cX7_init 52 = .ok (.putfield 25, 3) := by decide +kernel
theorem dX7_init_55 : decode cX7_init 55 = .ok (.aload_n 0, 1) := by decide +kernel
theorem dX7_init_56 : decode cX7_init 56 = .ok (.sipush 200, 3) := by decide +kernel
theorem dX7_init_59 : decode cX7_init 59 = .ok (.newarray .int, 2) := by decide +kernel
theorem dX7_init_61 : decode cX7_init 61 = .ok (.putfield 28, 3) := by decide +kernel
theorem dX7_init_64 : decode cX7_init 64 = .ok (.aload_n 0, 1) := by decide +kernel
theorem dX7_init_65 : decode cX7_init 65 = .ok (.sipush 200, 3) := by decide +kernel
theorem dX7_init_68 : decode cX7_init 68 = .ok (.newarray .int, 2) := by decide +kernel
theorem dX7_init_70 : decode cX7_init 70 = .ok (.putfield 31, 3) := by decide +kernel
theorem dX7_init_73 : decode cX7_init 73 = .ok (.aload_n 0, 1) := by decide +kernel
theorem dX7_init_74 : decode cX7_init 74 = .ok (.sipush 204, 3) := by decide +kernel
theorem dX7_init_77 : decode cX7_init 77 = .ok (.newarray .int, 2) := by decide +kernel
theorem dX7_init_79 : decode cX7_init 79 = .ok (.putfield 34, 3) := by decide +kernel
theorem dX7_init_82 : decode cX7_init 82 = .ok (.aload_n 0, 1) := by decide +kernel
theorem dX7_init_83 : decode cX7_init 83 = .ok (.sipush 200, 3) := by decide +kernel
theorem dX7_init_86 : decode cX7_init 86 = .ok (.newarray .int, 2) := by decide +kernel
theorem dX7_init_88 : decode cX7_init 88 = .ok (.putfield 37, 3) := by decide +kernel
theorem dX7_init_91 : decode cX7_init 91 = .ok (.aload_n 0, 1) := by decide +kernel
theorem dX7_init_92 : decode cX7_init 92 = .ok (.sipush 400, 3) := by decide +kernel
theorem dX7_init_95 : decode cX7_init 95 = .ok (.newarray .int, 2) := by decide +kernel
theorem dX7_init_97 : decode cX7_init 97 = .ok (.putfield 40, 3) := by decide +kernel
theorem dX7_init_100 : decode cX7_init 100 = .ok (.iconst 0, 1) := by decide +kernel
theorem dX7_init_101 : decode cX7_init 101 = .ok (.istore_n 1, 1) := by decide +kernel
theorem dX7_init_102 : decode cX7_init 102 = .ok (.iload_n 1, 1) := by decide +kernel
theorem dX7_init_103 : decode cX7_init 103 = .ok (.bipush 6, 2) := by decide +kernel
theorem dX7_init_105 : decode cX7_init 105 = .ok (.if_icmp .ge 32, 3) := by decide +kernel
theorem dX7_init_108 : decode cX7_init 108 = .ok (.aload_n 0, 1) := by decide +kernel
theorem dX7_init_109 : decode cX7_init 109 = .ok (.getfield 7, 3) := by decide +kernel
theorem dX7_init_112 : decode cX7_init 112 = .ok (.iload_n 1, 1) := by decide +kernel
theorem dX7_init_113 : decode cX7_init 113 = .ok (.iconst 1, 1) := by decide +kernel
theorem dX7_init_114 : decode cX7_init 114 = .ok (.iastore, 1) := by decide +kernel
theorem dX7_init_115 : decode cX7_init 115 = .ok (.aload_n 0, 1) := by decide +kernel
theorem dX7_init_116 : decode cX7_init 116 = .ok (.getfield 7, 3) := by decide +kernel
theorem dX7_init_119 : decode cX7_init 119 = .ok (.bipush 6, 2) := by decide +kernel
theorem dX7_init_121 : decode cX7_init 121 = .ok (.sipush 200, 3) := by decide +kernel
theorem dX7_init_124 : decode cX7_init 124 = .ok (.iload_n 1, 1) := by decide +kernel
theorem dX7_init_125 : decode cX7_init 125 = .ok (.imul, 1) := by decide +kernel
theorem dX7_init_126 : decode cX7_init 126 = .ok (.iadd, 1) := by decide +kernel
theorem dX7_init_127 : decode cX7_init 127 = .ok (.sipush 1000, 3) := by decide +kernel
theorem dX7_init_130 : decode cX7_init 130 = .ok (.iastore, 1) := by decide +kernel
theorem dX7_init_131 : decode cX7_init 131 = .ok (.iinc 1 1, 3) := by decide +kernel
theorem dX7_init_134 : decode cX7_init 134 = .ok (.goto (-32), 3) := by decide +kernel
theorem dX7_init_137 : decode cX7_init 137 = .ok (.return_, 1) := by decide +kernel
theorem dX7_moves_0 : decode cX7_moves 0 = .ok (.iconst 0, 1) := by decide +kernel
theorem dX7_moves_1 : decode cX7_moves 1 = .ok (.istore 5, 2) := by decide +kernel
theorem dX7_moves_3 : decode cX7_moves 3 = .ok (.iload 5, 2) := by decide +kernel
theorem dX7_moves_5 : decode cX7_moves 5 = .ok (.iload 4, 2) := by decide +kernel
theorem dX7_moves_7 : decode cX7_moves 7 = .ok (.if_icmp .ge 21, 3) := by decide +kernel
theorem dX7_moves_10 : decode cX7_moves 10 = .ok (.aload_n 2, 1) := by decide +kernel
theorem dX7_moves_11 : decode cX7_moves 11 = .ok (.iload_n 3, 1) := by decide +kernel
theorem dX7_moves_12 : decode cX7_moves 12 = .ok (.iload 5, 2) := by decide +kernel
theorem dX7_moves_14 : decode cX7_moves 14 = .ok (.iadd, 1) := by decide +kernel
theorem dX7_moves_15 : decode cX7_moves 15 = .ok (.aload_n 0, 1) := by decide +kernel
theorem dX7_moves_16 : decode cX7_moves 16 = .ok (.iload_n 1, 1) := by decide +kernel
theorem dX7_moves_17 : decode cX7_moves 17 = .ok (.iload 5, 2) := by decide +kernel
theorem dX7_moves_19 : decode cX7_moves 19 = .ok (.iadd, 1) := by decide +kernel
theorem dX7_moves_20 : decode cX7_moves 20 = .ok (.iaload, 1) := by decide +kernel
theorem dX7_moves_21 : decode cX7_moves 21 = .ok (.iastore, 1) := by decide +kernel
theorem dX7_moves_22 : decode cX7_moves 22 = .ok (.iinc 5 1, 3) := by decide +kernel
theorem dX7_moves_25 : decode cX7_moves 25 = .ok (.goto (-22), 3) := by decide +kernel
theorem dX7_moves_28 : decode cX7_moves 28 = .ok (.return_, 1) := by decide +kernel
theorem dX7_within_0 : decode cX7_within 0 = .ok (.iload_n 0, 1) := by decide +kernel
theorem dX7_within_1 : decode cX7_within 1 = .ok (.iload_n 1, 1) := by decide +kernel
theorem dX7_within_2 : decode cX7_within 2 = .ok (.if_icmp .lt 12, 3) := by decide +kernel
theorem dX7_within_5 : decode cX7_within 5 = .ok (.iload_n 0, 1) := by decide +kernel
theorem dX7_within_6 : decode cX7_within 6 = .ok (.iload_n 2, 1) := by decide +kernel
theorem dX7_within_7 : decode cX7_within 7 = .ok (.if_icmp .gt 7, 3) := by decide +kernel
theorem dX7_within_10 : decode cX7_within 10 = .ok (.iconst 1, 1) := by decide +kernel
theorem dX7_within_11 : decode cX7_within 11 = .ok (.goto 4, 3) := by decide +kernel
theorem dX7_within_14 : decode cX7_within 14 = .ok (.iconst 0, 1) := by decide +kernel
theorem dX7_within_15 : decode cX7_within 15 = .ok (.ireturn, 1) := by decide +kernel
theorem dX7_record_0 : decode cX7_record 0 = .ok (.aload_n 0, 1) := by decide +kernel
theorem dX7_record_1 : decode cX7_record 1 = .ok (.getfield 43, 3) := by decide +kernel
theorem dX7_record_4 : decode cX7_record 4 = .ok (.bipush 6, 2) := by decide +kernel
theorem dX7_record_6 : decode cX7_record 6 = .ok (.if_icmp .ne 44, 3) := by decide +kernel
theorem dX7_record_9 : decode cX7_record 9 = .ok (.iconst 0, 1) := by decide +kernel
theorem dX7_record_10 : decode cX7_record 10 = .ok (.istore_n 1, 1) := by decide +kernel
theorem dX7_record_11 : decode cX7_record 11 = .ok (.iload_n 1, 1) := by decide +kernel
theorem dX7_record_12 : decode cX7_record 12 = .ok (.sipush 6030, 3) := by decide +kernel
theorem dX7_record_15 : decode cX7_record 15 = .ok (.if_icmp .ge 25, 3) := by decide +kernel
theorem dX7_record_18 : decode cX7_record 18 = .ok (.aload_n 0, 1) := by decide +kernel
theorem dX7_record_19 : decode cX7_record 19 = .ok (.getfield 13, 3) := by decide +kernel
theorem dX7_record_22 : decode cX7_record 22 = .ok (.iload_n 1, 1) := by decide +kernel
theorem dX7_record_23 : decode cX7_record 23 = .ok (.aload_n 0, 1) := by decide +kernel
theorem dX7_record_24 : decode cX7_record 24 = .ok (.getfield 13, 3) := by decide +kernel
theorem dX7_record_27 : decode cX7_record 27 = .ok (.iload_n 1, 1) := by decide +kernel
theorem dX7_record_28 : decode cX7_record 28 = .ok (.sipush 1206, 3) := by decide +kernel
theorem dX7_record_31 : decode cX7_record 31 = .ok (.iadd, 1) := by decide +kernel
theorem dX7_record_32 : decode cX7_record 32 = .ok (.iaload, 1) := by decide +kernel
theorem dX7_record_33 : decode cX7_record 33 = .ok (.iastore, 1) := by decide +kernel
theorem dX7_record_34 : decode cX7_record 34 = .ok (.iinc 1 1, 3) := by decide +kernel
theorem dX7_record_37 : decode cX7_record 37 = .ok (.goto (-26), 3) := by decide +kernel
theorem dX7_record_40 : decode cX7_record 40 = .ok (.aload_n 0, 1) := by decide +kernel
theorem dX7_record_41 : decode cX7_record 41 = .ok (.dup, 1) := by decide +kernel
theorem dX7_record_42 : decode cX7_record 42 = .ok (.getfield 43, 3) := by decide +kernel
theorem dX7_record_45 : decode cX7_record 45 = .ok (.iconst 1, 1) := by decide +kernel
theorem dX7_record_46 : decode cX7_record 46 = .ok (.isub, 1) := by decide +kernel
theorem dX7_record_47 : decode cX7_record 47 = .ok (.putfield 43, 3) := by decide +kernel
theorem dX7_record_50 : decode cX7_record 50 = .ok (.aload_n 0, 1) := by decide +kernel
theorem dX7_record_51 : decode cX7_record 51 = .ok (.getfield 7, 3) := by decide +kernel
theorem dX7_record_54 : decode cX7_record 54 = .ok (.iconst 0, 1) := by decide +kernel
theorem dX7_record_55 : decode cX7_record 55 = .ok (.aload_n 0, 1) := by decide +kernel
theorem dX7_record_56 : decode cX7_record 56 = .ok (.getfield 13, 3) := by decide +kernel
theorem dX7_record_59 : decode cX7_record 59 = .ok (.aload_n 0, 1) := by decide +kernel
theorem dX7_record_60 : decode cX7_record 60 = .ok (.getfield 43, 3) := by decide +kernel
theorem dX7_record_63 : decode cX7_record 63 = .ok (.sipush 1206, 3) := by decide +kernel
theorem dX7_record_66 : decode cX7_record 66 = .ok (.imul, 1) := by decide +kernel
theorem dX7_record_67 : decode cX7_record 67 = .ok (.sipush 1206, 3) := by decide +kernel
theorem dX7_record_70 : decode cX7_record 70 = .ok (.invokestatic 47, 3) := by decide +kernel
theorem dX7_record_73 : decode cX7_record 73 = .ok (.aload_n 0, 1) := by decide +kernel
theorem dX7_record_74 : decode cX7_record 74 = .ok (.dup, 1) := by decide +kernel
theorem dX7_record_75 : decode cX7_record 75 = .ok (.getfield 43, 3) := by decide +kernel
theorem dX7_record_78 : decode cX7_record 78 = .ok (.iconst 1, 1) := by decide +kernel
theorem dX7_record_79 : decode cX7_record 79 = .ok (.iadd, 1) := by decide +kernel
theorem dX7_record_80 : decode cX7_record 80 = .ok (.putfield 43, 3) := by decide +kernel
theorem dX7_record_83 : decode cX7_record 83 = .ok (.return_, 1) := by decide +kernel
theorem dX7_isRegister_0 : decode cX7_isRegister 0 = .ok (.iload_n 0, 1) := by decide +kernel
theorem dX7_isRegister_1 : decode cX7_isRegister 1 = .ok (.iconst 0, 1) := by decide +kernel
theorem dX7_isRegister_2 : decode cX7_isRegister 2 = .ok (.iconst 5, 1) := by decide +kernel
theorem dX7_isRegister_3 : decode cX7_isRegister 3 = .ok (.invokestatic 51, 3) := by decide +kernel
theorem dX7_isRegister_6 : decode cX7_isRegister 6 = .ok (.ireturn, 1) := by decide +kernel
theorem dX7_load_0 : decode cX7_load 0 = .ok (.aload_n 0, 1) := by decide +kernel
theorem dX7_load_1 : decode cX7_load 1 = .ok (.aload_n 0, 1) := by decide +kernel
theorem dX7_load_2 : decode cX7_load 2 = .ok (.getfield 7, 3) := by decide +kernel
theorem dX7_load_5 : decode cX7_load 5 = .ok (.iload_n 1, 1) := by decide +kernel
theorem dX7_load_6 : decode cX7_load 6 = .ok (.iaload, 1) := by decide +kernel
theorem dX7_load_7 : decode cX7_load 7 = .ok (.putfield 55, 3) := by decide +kernel
theorem dX7_load_10 : decode cX7_load 10 = .ok (.aload_n 0, 1) := by decide +kernel
theorem dX7_load_11 : decode cX7_load 11 = .ok (.getfield 7, 3) := by decide +kernel
theorem dX7_load_14 : decode cX7_load 14 = .ok (.bipush 6, 2) := by decide +kernel
theorem dX7_load_16 : decode cX7_load 16 = .ok (.sipush 200, 3) := by decide +kernel
theorem dX7_load_19 : decode cX7_load 19 = .ok (.iload_n 1, 1) := by decide +kernel
theorem dX7_load_20 : decode cX7_load 20 = .ok (.imul, 1) := by decide +kernel
theorem dX7_load_21 : decode cX7_load 21 = .ok (.iadd, 1) := by decide +kernel
theorem dX7_load_22 : decode cX7_load 22 = .ok (.aload_n 0, 1) := by decide +kernel
theorem dX7_load_23 : decode cX7_load 23 = .ok (.getfield 25, 3) := by decide +kernel
theorem dX7_load_26 : decode cX7_load 26 = .ok (.iconst 0, 1) := by decide +kernel
theorem dX7_load_27 : decode cX7_load 27 = .ok (.aload_n 0, 1) := by decide +kernel
theorem dX7_load_28 : decode cX7_load 28 = .ok (.getfield 55, 3) := by decide +kernel
theorem dX7_load_31 : decode cX7_load 31 = .ok (.invokestatic 47, 3) := by decide +kernel
theorem dX7_load_34 : decode cX7_load 34 = .ok (.aload_n 0, 1) := by decide +kernel
theorem dX7_load_35 : decode cX7_load 35 = .ok (.invokevirtual 58, 3) := by decide +kernel
theorem dX7_load_38 : decode cX7_load 38 = .ok (.return_, 1) := by decide +kernel
theorem dX7_store_0 : decode cX7_store 0 = .ok (.aload_n 0, 1) := by decide +kernel
theorem dX7_store_1 : decode cX7_store 1 = .ok (.getfield 7, 3) := by decide +kernel
theorem dX7_store_4 : decode cX7_store 4 = .ok (.iload_n 1, 1) := by decide +kernel
theorem dX7_store_5 : decode cX7_store 5 = .ok (.aload_n 0, 1) := by decide +kernel
theorem dX7_store_6 : decode cX7_store 6 = .ok (.getfield 55, 3) := by decide +kernel
theorem dX7_store_9 : decode cX7_store 9 = .ok (.iastore, 1) := by decide +kernel
theorem dX7_store_10 : decode cX7_store 10 = .ok (.iconst 0, 1) := by decide +kernel
theorem dX7_store_11 : decode cX7_store 11 = .ok (.istore_n 2, 1) := by decide +kernel
theorem dX7_store_12 : decode cX7_store 12 = .ok (.iload_n 2, 1) := by decide +kernel
theorem dX7_store_13 : decode cX7_store 13 = .ok (.sipush 200, 3) := by decide +kernel
theorem dX7_store_16 : decode cX7_store 16 = .ok (.if_icmp .ge 42, 3) := by decide +kernel
theorem dX7_store_19 : decode cX7_store 19 = .ok (.aload_n 0, 1) := by decide +kernel
theorem dX7_store_20 : decode cX7_store 20 = .ok (.getfield 7, 3) := by decide +kernel
theorem dX7_store_23 : decode cX7_store 23 = .ok (.bipush 6, 2) := by decide +kernel
theorem dX7_store_25 : decode cX7_store 25 = .ok (.sipush 200, 3) := by decide +kernel
theorem dX7_store_28 : decode cX7_store 28 = .ok (.iload_n 1, 1) := by decide +kernel
theorem dX7_store_29 : decode cX7_store 29 = .ok (.imul, 1) := by decide +kernel
theorem dX7_store_30 : decode cX7_store 30 = .ok (.iadd, 1) := by decide +kernel
theorem dX7_store_31 : decode cX7_store 31 = .ok (.iload_n 2, 1) := by decide +kernel
theorem dX7_store_32 : decode cX7_store 32 = .ok (.iadd, 1) := by decide +kernel
theorem dX7_store_33 : decode cX7_store 33 = .ok (.iload_n 2, 1) := by decide +kernel
theorem dX7_store_34 : decode cX7_store 34 = .ok (.aload_n 0, 1) := by decide +kernel
theorem dX7_store_35 : decode cX7_store 35 = .ok (.getfield 55, 3) := by decide +kernel
theorem dX7_store_38 : decode cX7_store 38 = .ok (.if_icmp .ge 12, 3) := by decide +kernel
theorem dX7_store_41 : decode cX7_store 41 = .ok (.aload_n 0, 1) := by decide +kernel
theorem dX7_store_42 : decode cX7_store 42 = .ok (.getfield 25, 3) := by decide +kernel
theorem dX7_store_45 : decode cX7_store 45 = .ok (.iload_n 2, 1) := by decide +kernel
theorem dX7_store_46 : decode cX7_store 46 = .ok (.iaload, 1) := by decide +kernel
theorem dX7_store_47 : decode cX7_store 47 = .ok (.goto 4, 3) := by decide +kernel
theorem dX7_store_50 : decode cX7_store 50 = .ok (.iconst 0, 1) := by decide +kernel
theorem dX7_store_51 : decode cX7_store 51 = .ok (.iastore, 1) := by decide +kernel
theorem dX7_store_52 : decode cX7_store 52 = .ok (.iinc 2 1, 3) := by decide +kernel
theorem dX7_store_55 : decode cX7_store 55 = .ok (.goto (-43), 3) := by decide +kernel
theorem dX7_store_58 : decode cX7_store 58 = .ok (.return_, 1) := by decide +kernel
theorem dX7_kindAt_0 : decode cX7_kindAt 0 = .ok (.aload_n 0, 1) := by decide +kernel
theorem dX7_kindAt_1 : decode cX7_kindAt 1 = .ok (.getfield 25, 3) := by decide +kernel
theorem dX7_kindAt_4 : decode cX7_kindAt 4 = .ok (.iload_n 1, 1) := by decide +kernel
theorem dX7_kindAt_5 : decode cX7_kindAt 5 = .ok (.iaload, 1) := by decide +kernel
theorem dX7_kindAt_6 : decode cX7_kindAt 6 = .ok (.sipush 1000, 3) := by decide +kernel
theorem dX7_kindAt_9 : decode cX7_kindAt 9 = .ok (.idiv, 1) := by decide +kernel
theorem dX7_kindAt_10 : decode cX7_kindAt 10 = .ok (.ireturn, 1) := by decide +kernel
theorem dX7_numberAt_0 : decode cX7_numberAt 0 = .ok (.aload_n 0, 1) := by decide +kernel
theorem dX7_numberAt_1 : decode cX7_numberAt 1 = .ok (.getfield 25, 3) := by decide +kernel
theorem dX7_numberAt_4 : decode cX7_numberAt 4 = .ok (.iload_n 1, 1) := by decide +kernel
theorem dX7_numberAt_5 : decode cX7_numberAt 5 = .ok (.iaload, 1) := by decide +kernel
theorem dX7_numberAt_6 : decode cX7_numberAt 6 = .ok (.sipush 1000, 3) := by decide +kernel
theorem dX7_numberAt_9 : decode cX7_numberAt 9 = .ok (.irem, 1) := by decide +kernel
theorem dX7_numberAt_10 : decode cX7_numberAt 10 = .ok (.ireturn, 1) := by decide +kernel
theorem dX7_findDepths_0 : decode cX7_findDepths 0 = .ok (.iconst 1, 1) := by decide +kernel
theorem dX7_findDepths_1 : decode cX7_findDepths 1 = .ok (.istore_n 1, 1) := by decide +kernel
theorem dX7_findDepths_2 : decode cX7_findDepths 2 = .ok (.aload_n 0, 1) := by decide +kernel
theorem dX7_findDepths_3 : decode cX7_findDepths 3 = .ok (.getfield 34, 3) := by decide +kernel
theorem dX7_findDepths_6 : decode cX7_findDepths 6 = .ok (.iconst 0, 1) := by decide +kernel
theorem dX7_findDepths_7 : decode cX7_findDepths 7 = .ok (.iconst 0, 1) := by decide +kernel
theorem dX7_findDepths_8 : decode cX7_findDepths 8 = .ok (.iastore, 1) := by decide +kernel
theorem dX7_findDepths_9 : decode cX7_findDepths 9 = .ok (.iconst 0, 1) := by decide +kernel
theorem dX7_findDepths_10 : decode cX7_findDepths 10 = .ok (.istore_n 2, 1) := by decide +kernel
theorem dX7_findDepths_11 : decode cX7_findDepths 11 = .ok (.iload_n 2, 1) := by decide +kernel
theorem dX7_findDepths_12 : decode cX7_findDepths 12 = .ok (.aload_n 0, 1) := by decide +kernel
theorem dX7_findDepths_13 : decode cX7_findDepths 13 = .ok (.getfield 55, 3) := by decide +kernel
theorem dX7_findDepths_16 : decode cX7_findDepths 16 = .ok (.if_icmp .ge 78, 3) := by decide +kernel
theorem dX7_findDepths_19 : decode cX7_findDepths 19 = .ok (.iinc 1 (-1), 3) := by decide +kernel
theorem dX7_findDepths_22 : decode cX7_findDepths 22 = .ok (.aload_n 0, 1) := by decide +kernel
theorem dX7_findDepths_23 : decode cX7_findDepths 23 = .ok (.getfield 34, 3) := by decide +kernel
theorem dX7_findDepths_26 : decode cX7_findDepths 26 = .ok (.iload_n 1, 1) := by decide +kernel
theorem dX7_findDepths_27 : decode cX7_findDepths 27 = .ok (.iaload, 1) := by decide +kernel
theorem dX7_findDepths_28 : decode cX7_findDepths 28 = .ok (.istore_n 3, 1) := by decide +kernel
theorem dX7_findDepths_29 : decode cX7_findDepths 29 = .ok (.aload_n 0, 1) := by decide +kernel
theorem dX7_findDepths_30 : decode cX7_findDepths 30 = .ok (.getfield 28, 3) := by decide +kernel
theorem dX7_findDepths_33 : decode cX7_findDepths 33 = .ok (.iload_n 2, 1) := by decide +kernel
theorem dX7_findDepths_34 : decode cX7_findDepths 34 = .ok (.iload_n 3, 1) := by decide +kernel
theorem dX7_findDepths_35 : decode cX7_findDepths 35 = .ok (.iastore, 1) := by decide +kernel
theorem dX7_findDepths_36 : decode cX7_findDepths 36 = .ok (.aload_n 0, 1) := by decide +kernel
theorem dX7_findDepths_37 : decode cX7_findDepths 37 = .ok (.iload_n 2, 1) := by decide +kernel
theorem dX7_findDepths_38 : decode cX7_findDepths 38 = .ok (.invokevirtual 61, 3) := by decide +kernel
theorem dX7_findDepths_41 : decode cX7_findDepths 41 = .ok (.iconst 3, 1) := by decide +kernel
theorem dX7_findDepths_42 : decode cX7_findDepths 42 = .ok (.if_icmp .ne 25, 3) := by decide +kernel
theorem dX7_findDepths_45 : decode cX7_findDepths 45 = .ok (.aload_n 0, 1) := by decide +kernel
theorem dX7_findDepths_46 : decode cX7_findDepths 46 = .ok (.getfield 34, 3) := by decide +kernel
theorem dX7_findDepths_49 : decode cX7_findDepths 49 = .ok (.iload_n 1, 1) := by decide +kernel
theorem dX7_findDepths_50 : decode cX7_findDepths 50 = .ok (.iload_n 3, 1) := by decide +kernel
theorem dX7_findDepths_51 : decode cX7_findDepths 51 = .ok (.iastore, 1) := by decide +kernel
theorem dX7_findDepths_52 : decode cX7_findDepths 52 = .ok (.aload_n 0, 1) := by decide +kernel
theorem dX7_findDepths_53 : decode cX7_findDepths 53 = .ok (.getfield 34, 3) := by decide +kernel
theorem dX7_findDepths_56 : decode cX7_findDepths 56 = .ok (.iload_n 1, 1) := by decide +kernel
theorem dX7_findDepths_57 : decode cX7_findDepths 57 = .ok (.iconst 1, 1) := by decide +kernel
theorem dX7_findDepths_58 : decode cX7_findDepths 58 = .ok (.iadd, 1) := by decide +kernel
theorem dX7_findDepths_59 : decode cX7_findDepths 59 = .ok (.iload_n 3, 1) := by decide +kernel
theorem dX7_findDepths_60 : decode cX7_findDepths 60 = .ok (.iastore, 1) := by decide +kernel
theorem dX7_findDepths_61 : decode cX7_findDepths 61 = .ok (.iinc 1 2, 3) := by decide +kernel
theorem dX7_findDepths_64 : decode cX7_findDepths 64 = .ok (.goto 24, 3) := by decide +kernel
theorem dX7_findDepths_67 : decode cX7_findDepths 67 = .ok (.aload_n 0, 1) := by decide +kernel
theorem dX7_findDepths_68 : decode cX7_findDepths 68 = .ok (.iload_n 2, 1) := by decide +kernel
theorem dX7_findDepths_69 : decode cX7_findDepths 69 = .ok (.invokevirtual 61, 3) := by decide +kernel
theorem dX7_findDepths_72 : decode cX7_findDepths 72 = .ok (.iconst 2, 1) := by decide +kernel
theorem dX7_findDepths_73 : decode cX7_findDepths 73 = .ok (.if_icmp .ne 15, 3) := by decide +kernel
theorem dX7_findDepths_76 : decode cX7_findDepths 76 = .ok (.aload_n 0, 1) := by decide +kernel
theorem dX7_findDepths_77 : decode cX7_findDepths 77 = .ok (.getfield 34, 3) := by decide +kernel
theorem dX7_findDepths_80 : decode cX7_findDepths 80 = .ok (.iload_n 1, 1) := by decide +kernel
theorem dX7_findDepths_81 : decode cX7_findDepths 81 = .ok (.iload_n 3, 1) := by decide +kernel
theorem dX7_findDepths_82 : decode cX7_findDepths 82 = .ok (.iconst 1, 1) := by decide +kernel
theorem dX7_findDepths_83 : decode cX7_findDepths 83 = .ok (.iadd, 1) := by decide +kernel
theorem dX7_findDepths_84 : decode cX7_findDepths 84 = .ok (.iastore, 1) := by decide +kernel
theorem dX7_findDepths_85 : decode cX7_findDepths 85 = .ok (.iinc 1 1, 3) := by decide +kernel
theorem dX7_findDepths_88 : decode cX7_findDepths 88 = .ok (.iinc 2 1, 3) := by decide +kernel
theorem dX7_findDepths_91 : decode cX7_findDepths 91 = .ok (.goto (-80), 3) := by decide +kernel
theorem dX7_findDepths_94 : decode cX7_findDepths 94 = .ok (.return_, 1) := by decide +kernel
theorem dX7_endOf_0 : decode cX7_endOf 0 = .ok (.iconst 1, 1) := by decide +kernel
theorem dX7_endOf_1 : decode cX7_endOf 1 = .ok (.istore_n 2, 1) := by decide +kernel
theorem dX7_endOf_2 : decode cX7_endOf 2 = .ok (.iload_n 1, 1) := by decide +kernel
theorem dX7_endOf_3 : decode cX7_endOf 3 = .ok (.istore_n 3, 1) := by decide +kernel
theorem dX7_endOf_4 : decode cX7_endOf 4 = .ok (.iload_n 2, 1) := by decide +kernel
theorem dX7_endOf_5 : decode cX7_endOf 5 = .ok (.ifCond .le 39, 3) := by decide +kernel
theorem dX7_endOf_8 : decode cX7_endOf 8 = .ok (.iload_n 2, 1) := by decide +kernel
theorem dX7_endOf_9 : decode cX7_endOf 9 = .ok (.aload_n 0, 1) := by decide +kernel
theorem dX7_endOf_10 : decode cX7_endOf 10 = .ok (.iload_n 3, 1) := by decide +kernel
theorem dX7_endOf_11 : decode cX7_endOf 11 = .ok (.invokevirtual 61, 3) := by decide +kernel
theorem dX7_endOf_14 : decode cX7_endOf 14 = .ok (.iconst 3, 1) := by decide +kernel
theorem dX7_endOf_15 : decode cX7_endOf 15 = .ok (.if_icmp .ne 7, 3) := by decide +kernel
theorem dX7_endOf_18 : decode cX7_endOf 18 = .ok (.iconst 1, 1) := by decide +kernel
theorem dX7_endOf_19 : decode cX7_endOf 19 = .ok (.goto 17, 3) := by decide +kernel
theorem dX7_endOf_22 : decode cX7_endOf 22 = .ok (.aload_n 0, 1) := by decide +kernel
theorem dX7_endOf_23 : decode cX7_endOf 23 = .ok (.iload_n 3, 1) := by decide +kernel
theorem dX7_endOf_24 : decode cX7_endOf 24 = .ok (.invokevirtual 61, 3) := by decide +kernel
theorem dX7_endOf_27 : decode cX7_endOf 27 = .ok (.iconst 2, 1) := by decide +kernel
theorem dX7_endOf_28 : decode cX7_endOf 28 = .ok (.if_icmp .ne 7, 3) := by decide +kernel
theorem dX7_endOf_31 : decode cX7_endOf 31 = .ok (.iconst 0, 1) := by decide +kernel
theorem dX7_endOf_32 : decode cX7_endOf 32 = .ok (.goto 4, 3) := by decide +kernel
theorem dX7_endOf_35 : decode cX7_endOf 35 = .ok (.iconst (-1), 1) := by decide +kernel
theorem dX7_endOf_36 : decode cX7_endOf 36 = .ok (.iadd, 1) := by decide +kernel
theorem dX7_endOf_37 : decode cX7_endOf 37 = .ok (.istore_n 2, 1) := by decide +kernel
theorem dX7_endOf_38 : decode cX7_endOf 38 = .ok (.iinc 3 1, 3) := by decide +kernel
theorem dX7_endOf_41 : decode cX7_endOf 41 = .ok (.goto (-37), 3) := by decide +kernel
theorem dX7_endOf_44 : decode cX7_endOf 44 = .ok (.iload_n 3, 1) := by decide +kernel
theorem dX7_endOf_45 : decode cX7_endOf 45 = .ok (.ireturn, 1) := by decide +kernel
theorem dX7_isReducible_0 : decode cX7_isReducible 0 = .ok (.aload_n 0, 1) := by decide +kernel
theorem dX7_isReducible_1 : decode cX7_isReducible 1 = .ok (.iload_n 1, 1) := by decide +kernel
theorem dX7_isReducible_2 : decode cX7_isReducible 2 = .ok (.invokevirtual 61, 3) := by decide +kernel
theorem dX7_isReducible_5 : decode cX7_isReducible 5 = .ok (.iconst 3, 1) := by decide +kernel
theorem dX7_isReducible_6 : decode cX7_isReducible 6 = .ok (.if_icmp .ne 18, 3) := by decide +kernel
theorem dX7_isReducible_9 : decode cX7_isReducible 9 = .ok (.aload_n 0, 1) := by decide +kernel
theorem dX7_isReducible_10 : decode cX7_isReducible 10 = .ok (.iload_n 1, 1) := by decide +kernel
theorem dX7_isReducible_11 : decode cX7_isReducible 11 = .ok (.iconst 1, 1) := by decide +kernel
theorem dX7_isReducible_12 : decode cX7_isReducible 12 = .ok (.iadd, 1) := by decide +kernel
theorem dX7_isReducible_13 : decode cX7_isReducible 13 = .ok (.invokevirtual 61, 3) := by decide +kernel
theorem dX7_isReducible_16 : decode cX7_isReducible 16 = .ok (.iconst 2, 1) := by decide +kernel
theorem dX7_isReducible_17 : decode cX7_isReducible 17 = .ok (.if_icmp .ne 7, 3) := by decide +kernel
theorem dX7_isReducible_20 : decode cX7_isReducible 20 = .ok (.iconst 1, 1) := by decide +kernel
theorem dX7_isReducible_21 : decode cX7_isReducible 21 = .ok (.goto 4, 3) := by decide +kernel
theorem dX7_isReducible_24 : decode cX7_isReducible 24 = .ok (.iconst 0, 1) := by decide +kernel
theorem dX7_isReducible_25 : decode cX7_isReducible 25 = .ok (.ireturn, 1) := by decide +kernel
theorem dX7_hasReducible_0 : decode cX7_hasReducible 0 = .ok (.iconst 0, 1) := by decide +kernel
theorem dX7_hasReducible_1 : decode cX7_hasReducible 1 = .ok (.istore_n 3, 1) := by decide +kernel
theorem dX7_hasReducible_2 : decode cX7_hasReducible 2 = .ok (.iload_n 1, 1) := by decide +kernel
theorem dX7_hasReducible_3 : decode cX7_hasReducible 3 = .ok (.istore 4, 2) := by decide +kernel
theorem dX7_hasReducible_5 : decode cX7_hasReducible 5 = .ok (.iload 4, 2) := by decide +kernel
theorem dX7_hasReducible_7 : decode cX7_hasReducible 7 = .ok (.iload_n 2, 1) := by decide +kernel
theorem dX7_hasReducible_8 : decode cX7_hasReducible 8 = .ok (.if_icmp .ge 20, 3) := by decide +kernel
theorem dX7_hasReducible_11 : decode cX7_hasReducible 11 = .ok (.iload_n 3, 1) := by decide +kernel
theorem dX7_hasReducible_12 : decode cX7_hasReducible 12 = .ok (.ifCond .ne 16, 3) := by decide +kernel
theorem dX7_hasReducible_15 : decode cX7_hasReducible 15 = .ok (.aload_n 0, 1) := by decide +kernel
theorem dX7_hasReducible_16 : decode cX7_hasReducible 16 = .ok (.iload 4, 2) := by decide +kernel
theorem dX7_hasReducible_18 : decode cX7_hasReducible 18 = .ok (.invokevirtual 65, 3) := by decide +kernel
theorem dX7_hasReducible_21 : decode cX7_hasReducible 21 = .ok (.istore_n 3, 1) := by decide +kernel
theorem dX7_hasReducible_22 : decode cX7_hasReducible 22 = .ok (.iinc 4 1, 3) := by decide +kernel
theorem dX7_hasReducible_25 : decode cX7_hasReducible 25 = .ok (.goto (-20), 3) := by decide +kernel
theorem dX7_hasReducible_28 : decode cX7_hasReducible 28 = .ok (.iload_n 3, 1) := by decide +kernel
theorem dX7_hasReducible_29 : decode cX7_hasReducible 29 = .ok (.ireturn, 1) := by decide +kernel
theorem dX7_canCome_0 : decode cX7_canCome 0 = .ok (.aload_n 0, 1) := by decide +kernel
theorem dX7_canCome_1 : decode cX7_canCome 1 = .ok (.iload_n 1, 1) := by decide +kernel
theorem dX7_canCome_2 : decode cX7_canCome 2 = .ok (.invokevirtual 65, 3) := by decide +kernel
theorem dX7_canCome_5 : decode cX7_canCome 5 = .ok (.ifCond .eq 45, 3) := by decide +kernel
theorem dX7_canCome_8 : decode cX7_canCome 8 = .ok (.iload_n 2, 1) := by decide +kernel
theorem dX7_canCome_9 : decode cX7_canCome 9 = .ok (.ifCond .eq 37, 3) := by decide +kernel
theorem dX7_canCome_12 : decode cX7_canCome 12 = .ok (.iload_n 2, 1) := by decide +kernel
theorem dX7_canCome_13 : decode cX7_canCome 13 = .ok (.iconst 2, 1) := by decide +kernel
theorem dX7_canCome_14 : decode cX7_canCome 14 = .ok (.if_icmp .ne 12, 3) := by decide +kernel
theorem dX7_canCome_17 : decode cX7_canCome 17 = .ok (.aload_n 0, 1) := by decide +kernel
theorem dX7_canCome_18 : decode cX7_canCome 18 = .ok (.getfield 28, 3) := by decide +kernel
theorem dX7_canCome_21 : decode cX7_canCome 21 = .ok (.iload_n 1, 1) := by decide +kernel
theorem dX7_canCome_22 : decode cX7_canCome 22 = .ok (.iaload, 1) := by decide +kernel
theorem dX7_canCome_23 : decode cX7_canCome 23 = .ok (.ifCond .eq 23, 3) := by decide +kernel
theorem dX7_canCome_26 : decode cX7_canCome 26 = .ok (.iload_n 2, 1) := by decide +kernel
theorem dX7_canCome_27 : decode cX7_canCome 27 = .ok (.iconst 1, 1) := by decide +kernel
theorem dX7_canCome_28 : decode cX7_canCome 28 = .ok (.if_icmp .ne 22, 3) := by decide +kernel
theorem dX7_canCome_31 : decode cX7_canCome 31 = .ok (.aload_n 0, 1) := by decide +kernel
theorem dX7_canCome_32 : decode cX7_canCome 32 = .ok (.iload_n 1, 1) := by decide +kernel
theorem dX7_canCome_33 : decode cX7_canCome 33 = .ok (.iconst 1, 1) := by decide +kernel
theorem dX7_canCome_34 : decode cX7_canCome 34 = .ok (.iadd, 1) := by decide +kernel
theorem dX7_canCome_35 : decode cX7_canCome 35 = .ok (.aload_n 0, 1) := by decide +kernel
theorem dX7_canCome_36 : decode cX7_canCome 36 = .ok (.iload_n 1, 1) := by decide +kernel
theorem dX7_canCome_37 : decode cX7_canCome 37 = .ok (.invokevirtual 69, 3) := by decide +kernel
theorem dX7_canCome_40 : decode cX7_canCome 40 = .ok (.invokevirtual 72, 3) := by decide +kernel
theorem dX7_canCome_43 : decode cX7_canCome 43 = .ok (.ifCond .ne 7, 3) := by decide +kernel
theorem dX7_canCome_46 : decode cX7_canCome 46 = .ok (.iconst 1, 1) := by decide +kernel
theorem dX7_canCome_47 : decode cX7_canCome 47 = .ok (.goto 4, 3) := by decide +kernel
theorem dX7_canCome_50 : decode cX7_canCome 50 = .ok (.iconst 0, 1) := by decide +kernel
theorem dX7_canCome_51 : decode cX7_canCome 51 = .ok (.ireturn, 1) := by decide +kernel
theorem dX7_nextBy_0 : decode cX7_nextBy 0 = .ok (.iconst 0, 1) := by decide +kernel
theorem dX7_nextBy_1 : decode cX7_nextBy 1 = .ok (.istore_n 2, 1) := by decide +kernel
theorem dX7_nextBy_2 : decode cX7_nextBy 2 = .ok (.iload_n 2, 1) := by decide +kernel
theorem dX7_nextBy_3 : decode cX7_nextBy 3 = .ok (.aload_n 0, 1) := by decide +kernel
theorem dX7_nextBy_4 : decode cX7_nextBy 4 = .ok (.getfield 55, 3) := by decide +kernel
theorem dX7_nextBy_7 : decode cX7_nextBy 7 = .ok (.if_icmp .ge 20, 3) := by decide +kernel
theorem dX7_nextBy_10 : decode cX7_nextBy 10 = .ok (.aload_n 0, 1) := by decide +kernel
theorem dX7_nextBy_11 : decode cX7_nextBy 11 = .ok (.iload_n 2, 1) := by decide +kernel
theorem dX7_nextBy_12 : decode cX7_nextBy 12 = .ok (.iload_n 1, 1) := by decide +kernel
theorem dX7_nextBy_13 : decode cX7_nextBy 13 = .ok (.invokevirtual 76, 3) := by decide +kernel
theorem dX7_nextBy_16 : decode cX7_nextBy 16 = .ok (.ifCond .eq 5, 3) := by decide +kernel
theorem dX7_nextBy_19 : decode cX7_nextBy 19 = .ok (.iload_n 2, 1) := by decide +kernel
theorem dX7_nextBy_20 : decode cX7_nextBy 20 = .ok (.ireturn, 1) := by decide +kernel
theorem dX7_nextBy_21 : decode cX7_nextBy 21 = .ok (.iinc 2 1, 3) := by decide +kernel
theorem dX7_nextBy_24 : decode cX7_nextBy 24 = .ok (.goto (-22), 3) := by decide +kernel
theorem dX7_nextBy_27 : decode cX7_nextBy 27 = .ok (.bipush (-6), 2) := by decide +kernel
theorem dX7_nextBy_29 : decode cX7_nextBy 29 = .ok (.ireturn, 1) := by decide +kernel
theorem dX7_gives_0 : decode cX7_gives 0 = .ok (.aload_n 0, 1) := by decide +kernel
theorem dX7_gives_1 : decode cX7_gives 1 = .ok (.getfield 31, 3) := by decide +kernel
theorem dX7_gives_4 : decode cX7_gives 4 = .ok (.aload_n 0, 1) := by decide +kernel
theorem dX7_gives_5 : decode cX7_gives 5 = .ok (.getfield 79, 3) := by decide +kernel
theorem dX7_gives_8 : decode cX7_gives 8 = .ok (.iload_n 1, 1) := by decide +kernel
theorem dX7_gives_9 : decode cX7_gives 9 = .ok (.iastore, 1) := by decide +kernel
theorem dX7_gives_10 : decode cX7_gives 10 = .ok (.aload_n 0, 1) := by decide +kernel
theorem dX7_gives_11 : decode cX7_gives 11 = .ok (.dup, 1) := by decide +kernel
theorem dX7_gives_12 : decode cX7_gives 12 = .ok (.getfield 79, 3) := by decide +kernel
theorem dX7_gives_15 : decode cX7_gives 15 = .ok (.iconst 1, 1) := by decide +kernel
theorem dX7_gives_16 : decode cX7_gives 16 = .ok (.iadd, 1) := by decide +kernel
theorem dX7_gives_17 : decode cX7_gives 17 = .ok (.putfield 79, 3) := by decide +kernel
theorem dX7_gives_20 : decode cX7_gives 20 = .ok (.return_, 1) := by decide +kernel
theorem dX7_givesArgument_0 : decode cX7_givesArgument 0 = .ok (.iload_n 1, 1) := by decide +kernel
theorem dX7_givesArgument_1 : decode cX7_givesArgument 1 = .ok (.istore 4, 2) := by decide +kernel
theorem dX7_givesArgument_3 : decode cX7_givesArgument 3 = .ok (.iload 4, 2) := by decide +kernel
theorem dX7_givesArgument_5 : decode cX7_givesArgument 5 = .ok (.iload_n 2, 1) := by decide +kernel
theorem dX7_givesArgument_6 : decode cX7_givesArgument 6 = .ok (.if_icmp .ge 76, 3) := by decide +kernel
theorem dX7_givesArgument_9 : decode cX7_givesArgument 9 = .ok (.aload_n 0, 1) := by decide +kernel
theorem dX7_givesArgument_10 : decode cX7_givesArgument 10 = .ok (.iload 4, 2) := by decide +kernel
theorem dX7_givesArgument_12 : decode cX7_givesArgument 12 = .ok (.invokevirtual 61, 3) := by decide +kernel
theorem dX7_givesArgument_15 : decode cX7_givesArgument 15 = .ok (.ifCond .ne 30, 3) := by decide +kernel
theorem dX7_givesArgument_18 : decode cX7_givesArgument 18 = .ok (.aload_n 0, 1) := by decide +kernel
theorem dX7_givesArgument_19 : decode cX7_givesArgument 19 = .ok (.iload 4, 2) := by decide +kernel
theorem dX7_givesArgument_21 : decode cX7_givesArgument 21 = .ok (.invokevirtual 82, 3) := by decide +kernel
theorem dX7_givesArgument_24 : decode cX7_givesArgument 24 = .ok (.aload_n 0, 1) := by decide +kernel
theorem dX7_givesArgument_25 : decode cX7_givesArgument 25 = .ok (.getfield 28, 3) := by decide +kernel
theorem dX7_givesArgument_28 : decode cX7_givesArgument 28 = .ok (.iload 4, 2) := by decide +kernel
theorem dX7_givesArgument_30 : decode cX7_givesArgument 30 = .ok (.iaload, 1) := by decide +kernel
theorem dX7_givesArgument_31 : decode cX7_givesArgument 31 = .ok (.aload_n 0, 1) := by decide +kernel
theorem dX7_givesArgument_32 : decode cX7_givesArgument 32 = .ok (.getfield 28, 3) := by decide +kernel
theorem dX7_givesArgument_35 : decode cX7_givesArgument 35 = .ok (.iload_n 1, 1) := by decide +kernel
theorem dX7_givesArgument_36 : decode cX7_givesArgument 36 = .ok (.iaload, 1) := by decide +kernel
theorem dX7_givesArgument_37 : decode cX7_givesArgument 37 = .ok (.isub, 1) := by decide +kernel
theorem dX7_givesArgument_38 : decode cX7_givesArgument 38 = .ok (.if_icmp .lt 7, 3) := by decide +kernel
theorem dX7_givesArgument_41 : decode cX7_givesArgument 41 = .ok (.iconst 1, 1) := by decide +kernel
theorem dX7_givesArgument_42 : decode cX7_givesArgument 42 = .ok (.goto 4, 3) := by decide +kernel
theorem dX7_givesArgument_45 : decode cX7_givesArgument 45 = .ok (.iconst 0, 1) := by decide +kernel
theorem dX7_givesArgument_46 : decode cX7_givesArgument 46 = .ok (.istore 5, 2) := by decide +kernel
theorem dX7_givesArgument_48 : decode cX7_givesArgument 48 = .ok (.aload_n 0, 1) := by decide +kernel
theorem dX7_givesArgument_49 : decode cX7_givesArgument 49 = .ok (.iload 5, 2) := by decide +kernel
theorem dX7_givesArgument_51 : decode cX7_givesArgument 51 = .ok (.ifCond .eq 15, 3) := by decide +kernel
theorem dX7_givesArgument_54 : decode cX7_givesArgument 54 = .ok (.aload_n 0, 1) := by decide +kernel
theorem dX7_givesArgument_55 : decode cX7_givesArgument 55 = .ok (.getfield 25, 3) := by decide +kernel
theorem dX7_givesArgument_58 : decode cX7_givesArgument 58 = .ok (.iload 4, 2) := by decide +kernel
theorem dX7_givesArgument_60 : decode cX7_givesArgument 60 = .ok (.iaload, 1) := by decide +kernel
theorem dX7_givesArgument_61 : decode cX7_givesArgument 61 = .ok (.iload_n 3, 1) := by decide +kernel
theorem dX7_givesArgument_62 : decode cX7_givesArgument 62 = .ok (.iadd, 1) := by decide +kernel
theorem dX7_givesArgument_63 : decode cX7_givesArgument 63 = .ok (.goto 10, 3) := by decide +kernel
theorem dX7_givesArgument_66 : decode cX7_givesArgument 66 = .ok (.aload_n 0, 1) := by decide +kernel
theorem dX7_givesArgument_67 : decode cX7_givesArgument 67 = .ok (.getfield 25, 3) := by decide +kernel
theorem dX7_givesArgument_70 : decode cX7_givesArgument 70 = .ok (.iload 4, 2) := by decide +kernel
theorem dX7_givesArgument_72 : decode cX7_givesArgument 72 = .ok (.iaload, 1) := by decide +kernel
theorem dX7_givesArgument_73 : decode cX7_givesArgument 73 = .ok (.invokevirtual 85, 3) := by decide +kernel
theorem dX7_givesArgument_76 : decode cX7_givesArgument 76 = .ok (.iinc 4 1, 3) := by decide +kernel
theorem dX7_givesArgument_79 : decode cX7_givesArgument 79 = .ok (.goto (-76), 3) := by decide +kernel
theorem dX7_givesArgument_82 : decode cX7_givesArgument 82 = .ok (.return_, 1) := by decide +kernel
theorem dX7_usesOf_0 : decode cX7_usesOf 0 = .ok (.iconst 0, 1) := by decide +kernel
theorem dX7_usesOf_1 : decode cX7_usesOf 1 = .ok (.istore_n 3, 1) := by decide +kernel
theorem dX7_usesOf_2 : decode cX7_usesOf 2 = .ok (.iload_n 1, 1) := by decide +kernel
theorem dX7_usesOf_3 : decode cX7_usesOf 3 = .ok (.iconst 1, 1) := by decide +kernel
theorem dX7_usesOf_4 : decode cX7_usesOf 4 = .ok (.iadd, 1) := by decide +kernel
theorem dX7_usesOf_5 : decode cX7_usesOf 5 = .ok (.istore 4, 2) := by decide +kernel
theorem dX7_usesOf_7 : decode cX7_usesOf 7 = .ok (.iload 4, 2) := by decide +kernel
theorem dX7_usesOf_9 : decode cX7_usesOf 9 = .ok (.iload_n 2, 1) := by decide +kernel
theorem dX7_usesOf_10 : decode cX7_usesOf 10 = .ok (.if_icmp .ge 51, 3) := by decide +kernel
theorem dX7_usesOf_13 : decode cX7_usesOf 13 = .ok (.iload_n 3, 1) := by decide +kernel
theorem dX7_usesOf_14 : decode cX7_usesOf 14 = .ok (.aload_n 0, 1) := by decide +kernel
theorem dX7_usesOf_15 : decode cX7_usesOf 15 = .ok (.iload 4, 2) := by decide +kernel
theorem dX7_usesOf_17 : decode cX7_usesOf 17 = .ok (.invokevirtual 61, 3) := by decide +kernel
theorem dX7_usesOf_20 : decode cX7_usesOf 20 = .ok (.ifCond .ne 32, 3) := by decide +kernel
theorem dX7_usesOf_23 : decode cX7_usesOf 23 = .ok (.aload_n 0, 1) := by decide +kernel
theorem dX7_usesOf_24 : decode cX7_usesOf 24 = .ok (.iload 4, 2) := by decide +kernel
theorem dX7_usesOf_26 : decode cX7_usesOf 26 = .ok (.invokevirtual 82, 3) := by decide +kernel
theorem dX7_usesOf_29 : decode cX7_usesOf 29 = .ok (.aload_n 0, 1) := by decide +kernel
theorem dX7_usesOf_30 : decode cX7_usesOf 30 = .ok (.getfield 28, 3) := by decide +kernel
theorem dX7_usesOf_33 : decode cX7_usesOf 33 = .ok (.iload 4, 2) := by decide +kernel
theorem dX7_usesOf_35 : decode cX7_usesOf 35 = .ok (.iaload, 1) := by decide +kernel
theorem dX7_usesOf_36 : decode cX7_usesOf 36 = .ok (.aload_n 0, 1) := by decide +kernel
theorem dX7_usesOf_37 : decode cX7_usesOf 37 = .ok (.getfield 28, 3) := by decide +kernel
theorem dX7_usesOf_40 : decode cX7_usesOf 40 = .ok (.iload_n 1, 1) := by decide +kernel
theorem dX7_usesOf_41 : decode cX7_usesOf 41 = .ok (.iaload, 1) := by decide +kernel
theorem dX7_usesOf_42 : decode cX7_usesOf 42 = .ok (.isub, 1) := by decide +kernel
theorem dX7_usesOf_43 : decode cX7_usesOf 43 = .ok (.iconst 1, 1) := by decide +kernel
theorem dX7_usesOf_44 : decode cX7_usesOf 44 = .ok (.isub, 1) := by decide +kernel
theorem dX7_usesOf_45 : decode cX7_usesOf 45 = .ok (.if_icmp .ne 7, 3) := by decide +kernel
theorem dX7_usesOf_48 : decode cX7_usesOf 48 = .ok (.iconst 1, 1) := by decide +kernel
theorem dX7_usesOf_49 : decode cX7_usesOf 49 = .ok (.goto 4, 3) := by decide +kernel
theorem dX7_usesOf_52 : decode cX7_usesOf 52 = .ok (.iconst 0, 1) := by decide +kernel
theorem dX7_usesOf_53 : decode cX7_usesOf 53 = .ok (.iadd, 1) := by decide +kernel
theorem dX7_usesOf_54 : decode cX7_usesOf 54 = .ok (.istore_n 3, 1) := by decide +kernel
theorem dX7_usesOf_55 : decode cX7_usesOf 55 = .ok (.iinc 4 1, 3) := by decide +kernel
theorem dX7_usesOf_58 : decode cX7_usesOf 58 = .ok (.goto (-51), 3) := by decide +kernel
theorem dX7_usesOf_61 : decode cX7_usesOf 61 = .ok (.iload_n 3, 1) := by decide +kernel
theorem dX7_usesOf_62 : decode cX7_usesOf 62 = .ok (.ireturn, 1) := by decide +kernel
theorem dX7_givesBody_0 : decode cX7_givesBody 0 = .ok (.iload_n 1, 1) := by decide +kernel
theorem dX7_givesBody_1 : decode cX7_givesBody 1 = .ok (.iconst 1, 1) := by decide +kernel
theorem dX7_givesBody_2 : decode cX7_givesBody 2 = .ok (.iadd, 1) := by decide +kernel
theorem dX7_givesBody_3 : decode cX7_givesBody 3 = .ok (.istore 4, 2) := by decide +kernel
theorem dX7_givesBody_5 : decode cX7_givesBody 5 = .ok (.iload 4, 2) := by decide +kernel
theorem dX7_givesBody_7 : decode cX7_givesBody 7 = .ok (.iload_n 2, 1) := by decide +kernel
theorem dX7_givesBody_8 : decode cX7_givesBody 8 = .ok (.if_icmp .ge 101, 3) := by decide +kernel
theorem dX7_givesBody_11 : decode cX7_givesBody 11 = .ok (.aload_n 0, 1) := by decide +kernel
theorem dX7_givesBody_12 : decode cX7_givesBody 12 = .ok (.getfield 28, 3) := by decide +kernel
theorem dX7_givesBody_15 : decode cX7_givesBody 15 = .ok (.iload 4, 2) := by decide +kernel
theorem dX7_givesBody_17 : decode cX7_givesBody 17 = .ok (.iaload, 1) := by decide +kernel
theorem dX7_givesBody_18 : decode cX7_givesBody 18 = .ok (.aload_n 0, 1) := by decide +kernel
theorem dX7_givesBody_19 : decode cX7_givesBody 19 = .ok (.getfield 28, 3) := by decide +kernel
theorem dX7_givesBody_22 : decode cX7_givesBody 22 = .ok (.iload_n 1, 1) := by decide +kernel
theorem dX7_givesBody_23 : decode cX7_givesBody 23 = .ok (.iaload, 1) := by decide +kernel
theorem dX7_givesBody_24 : decode cX7_givesBody 24 = .ok (.isub, 1) := by decide +kernel
theorem dX7_givesBody_25 : decode cX7_givesBody 25 = .ok (.iconst 1, 1) := by decide +kernel
theorem dX7_givesBody_26 : decode cX7_givesBody 26 = .ok (.isub, 1) := by decide +kernel
theorem dX7_givesBody_27 : decode cX7_givesBody 27 = .ok (.istore 5, 2) := by decide +kernel
theorem dX7_givesBody_29 : decode cX7_givesBody 29 = .ok (.aload_n 0, 1) := by decide +kernel
theorem dX7_givesBody_30 : decode cX7_givesBody 30 = .ok (.iload 4, 2) := by decide +kernel
theorem dX7_givesBody_32 : decode cX7_givesBody 32 = .ok (.invokevirtual 82, 3) := by decide +kernel
theorem dX7_givesBody_35 : decode cX7_givesBody 35 = .ok (.istore 6, 2) := by decide +kernel
theorem dX7_givesBody_37 : decode cX7_givesBody 37 = .ok (.aload_n 0, 1) := by decide +kernel
theorem dX7_givesBody_38 : decode cX7_givesBody 38 = .ok (.iload 4, 2) := by decide +kernel
theorem dX7_givesBody_40 : decode cX7_givesBody 40 = .ok (.invokevirtual 61, 3) := by decide +kernel
theorem dX7_givesBody_43 : decode cX7_givesBody 43 = .ok (.ifCond .ne 21, 3) := by decide +kernel
theorem dX7_givesBody_46 : decode cX7_givesBody 46 = .ok (.iload 6, 2) := by decide +kernel
theorem dX7_givesBody_48 : decode cX7_givesBody 48 = .ok (.iload 5, 2) := by decide +kernel
theorem dX7_givesBody_50 : decode cX7_givesBody 50 = .ok (.if_icmp .ne 14, 3) := by decide +kernel
theorem dX7_givesBody_53 : decode cX7_givesBody 53 = .ok (.aload_n 0, 1) := by decide +kernel
theorem dX7_givesBody_54 : decode cX7_givesBody 54 = .ok (.iload_n 2, 1) := by decide +kernel
theorem dX7_givesBody_55 : decode cX7_givesBody 55 = .ok (.iload_n 3, 1) := by decide +kernel
theorem dX7_givesBody_56 : decode cX7_givesBody 56 = .ok (.iload 5, 2) := by decide +kernel
theorem dX7_givesBody_58 : decode cX7_givesBody 58 = .ok (.invokevirtual 89, 3) := by decide +kernel
theorem dX7_givesBody_61 : decode cX7_givesBody 61 = .ok (.goto 42, 3) := by decide +kernel
theorem dX7_givesBody_64 : decode cX7_givesBody 64 = .ok (.aload_n 0, 1) := by decide +kernel
theorem dX7_givesBody_65 : decode cX7_givesBody 65 = .ok (.aload_n 0, 1) := by decide +kernel
theorem dX7_givesBody_66 : decode cX7_givesBody 66 = .ok (.iload 4, 2) := by decide +kernel
theorem dX7_givesBody_68 : decode cX7_givesBody 68 = .ok (.invokevirtual 61, 3) := by decide +kernel
theorem dX7_givesBody_71 : decode cX7_givesBody 71 = .ok (.ifCond .ne 22, 3) := by decide +kernel
theorem dX7_givesBody_74 : decode cX7_givesBody 74 = .ok (.iload 6, 2) := by decide +kernel
theorem dX7_givesBody_76 : decode cX7_givesBody 76 = .ok (.iload 5, 2) := by decide +kernel
theorem dX7_givesBody_78 : decode cX7_givesBody 78 = .ok (.if_icmp .le 15, 3) := by decide +kernel
theorem dX7_givesBody_81 : decode cX7_givesBody 81 = .ok (.aload_n 0, 1) := by decide +kernel
theorem dX7_givesBody_82 : decode cX7_givesBody 82 = .ok (.getfield 25, 3) := by decide +kernel
theorem dX7_givesBody_85 : decode cX7_givesBody 85 = .ok (.iload 4, 2) := by decide +kernel
theorem dX7_givesBody_87 : decode cX7_givesBody 87 = .ok (.iaload, 1) := by decide +kernel
theorem dX7_givesBody_88 : decode cX7_givesBody 88 = .ok (.iconst 1, 1) := by decide +kernel
theorem dX7_givesBody_89 : decode cX7_givesBody 89 = .ok (.isub, 1) := by decide +kernel
theorem dX7_givesBody_90 : decode cX7_givesBody 90 = .ok (.goto 10, 3) := by decide +kernel
theorem dX7_givesBody_93 : decode cX7_givesBody 93 = .ok (.aload_n 0, 1) := by decide +kernel
theorem dX7_givesBody_94 : decode cX7_givesBody 94 = .ok (.getfield 25, 3) := by decide +kernel
theorem dX7_givesBody_97 : decode cX7_givesBody 97 = .ok (.iload 4, 2) := by decide +kernel
theorem dX7_givesBody_99 : decode cX7_givesBody 99 = .ok (.iaload, 1) := by decide +kernel
theorem dX7_givesBody_100 : decode cX7_givesBody 100 = .ok (.invokevirtual 85, 3) := by decide +kernel
theorem dX7_givesBody_103 : decode cX7_givesBody 103 = .ok (.iinc 4 1, 3) := by decide +kernel
theorem dX7_givesBody_106 : decode cX7_givesBody 106 = .ok (.goto (-101), 3) := by decide +kernel
theorem dX7_givesBody_109 : decode cX7_givesBody 109 = .ok (.return_, 1) := by decide +kernel
theorem dX7_goes_0 : decode cX7_goes 0 = .ok (.aload_n 0, 1) := by decide +kernel
theorem dX7_goes_1 : decode cX7_goes 1 = .ok (.iload_n 1, 1) := by decide +kernel
theorem dX7_goes_2 : decode cX7_goes 2 = .ok (.invokevirtual 93, 3) := by decide +kernel
theorem dX7_goes_5 : decode cX7_goes 5 = .ok (.istore_n 2, 1) := by decide +kernel
theorem dX7_goes_6 : decode cX7_goes 6 = .ok (.iload_n 2, 1) := by decide +kernel
theorem dX7_goes_7 : decode cX7_goes 7 = .ok (.bipush (-6), 2) := by decide +kernel
theorem dX7_goes_9 : decode cX7_goes 9 = .ok (.if_icmp .ne 5, 3) := by decide +kernel
theorem dX7_goes_12 : decode cX7_goes 12 = .ok (.iconst 1, 1) := by decide +kernel
theorem dX7_goes_13 : decode cX7_goes 13 = .ok (.ireturn, 1) := by decide +kernel
theorem dX7_goes_14 : decode cX7_goes 14 = .ok (.aload_n 0, 1) := by decide +kernel
theorem dX7_goes_15 : decode cX7_goes 15 = .ok (.iload_n 2, 1) := by decide +kernel
theorem dX7_goes_16 : decode cX7_goes 16 = .ok (.iconst 1, 1) := by decide +kernel
theorem dX7_goes_17 : decode cX7_goes 17 = .ok (.iadd, 1) := by decide +kernel
theorem dX7_goes_18 : decode cX7_goes 18 = .ok (.invokevirtual 69, 3) := by decide +kernel
theorem dX7_goes_21 : decode cX7_goes 21 = .ok (.istore_n 3, 1) := by decide +kernel
theorem dX7_goes_22 : decode cX7_goes 22 = .ok (.aload_n 0, 1) := by decide +kernel
theorem dX7_goes_23 : decode cX7_goes 23 = .ok (.iload_n 3, 1) := by decide +kernel
theorem dX7_goes_24 : decode cX7_goes 24 = .ok (.invokevirtual 69, 3) := by decide +kernel
theorem dX7_goes_27 : decode cX7_goes 27 = .ok (.istore 4, 2) := by decide +kernel
theorem dX7_goes_29 : decode cX7_goes 29 = .ok (.aload_n 0, 1) := by decide +kernel
theorem dX7_goes_30 : decode cX7_goes 30 = .ok (.iload_n 2, 1) := by decide +kernel
theorem dX7_goes_31 : decode cX7_goes 31 = .ok (.iconst 1, 1) := by decide +kernel
theorem dX7_goes_32 : decode cX7_goes 32 = .ok (.iadd, 1) := by decide +kernel
theorem dX7_goes_33 : decode cX7_goes 33 = .ok (.iload_n 3, 1) := by decide +kernel
theorem dX7_goes_34 : decode cX7_goes 34 = .ok (.invokevirtual 96, 3) := by decide +kernel
theorem dX7_goes_37 : decode cX7_goes 37 = .ok (.istore 5, 2) := by decide +kernel
theorem dX7_goes_39 : decode cX7_goes 39 = .ok (.aload_n 0, 1) := by decide +kernel
theorem dX7_goes_40 : decode cX7_goes 40 = .ok (.getfield 55, 3) := by decide +kernel
theorem dX7_goes_43 : decode cX7_goes 43 = .ok (.iload 4, 2) := by decide +kernel
theorem dX7_goes_45 : decode cX7_goes 45 = .ok (.iload_n 2, 1) := by decide +kernel
theorem dX7_goes_46 : decode cX7_goes 46 = .ok (.isub, 1) := by decide +kernel
theorem dX7_goes_47 : decode cX7_goes 47 = .ok (.isub, 1) := by decide +kernel
theorem dX7_goes_48 : decode cX7_goes 48 = .ok (.iload_n 3, 1) := by decide +kernel
theorem dX7_goes_49 : decode cX7_goes 49 = .ok (.iload_n 2, 1) := by decide +kernel
theorem dX7_goes_50 : decode cX7_goes 50 = .ok (.isub, 1) := by decide +kernel
theorem dX7_goes_51 : decode cX7_goes 51 = .ok (.iconst 2, 1) := by decide +kernel
theorem dX7_goes_52 : decode cX7_goes 52 = .ok (.isub, 1) := by decide +kernel
theorem dX7_goes_53 : decode cX7_goes 53 = .ok (.iload 5, 2) := by decide +kernel
theorem dX7_goes_55 : decode cX7_goes 55 = .ok (.isub, 1) := by decide +kernel
theorem dX7_goes_56 : decode cX7_goes 56 = .ok (.iadd, 1) := by decide +kernel
theorem dX7_goes_57 : decode cX7_goes 57 = .ok (.iload 5, 2) := by decide +kernel
theorem dX7_goes_59 : decode cX7_goes 59 = .ok (.iload 4, 2) := by decide +kernel
theorem dX7_goes_61 : decode cX7_goes 61 = .ok (.iload_n 3, 1) := by decide +kernel
theorem dX7_goes_62 : decode cX7_goes 62 = .ok (.isub, 1) := by decide +kernel
theorem dX7_goes_63 : decode cX7_goes 63 = .ok (.imul, 1) := by decide +kernel
theorem dX7_goes_64 : decode cX7_goes 64 = .ok (.iadd, 1) := by decide +kernel
theorem dX7_goes_65 : decode cX7_goes 65 = .ok (.istore 6, 2) := by decide +kernel
theorem dX7_goes_67 : decode cX7_goes 67 = .ok (.iload 6, 2) := by decide +kernel
theorem dX7_goes_69 : decode cX7_goes 69 = .ok (.sipush 200, 3) := by decide +kernel
theorem dX7_goes_72 : decode cX7_goes 72 = .ok (.if_icmp .le 5, 3) := by decide +kernel
theorem dX7_goes_75 : decode cX7_goes 75 = .ok (.iconst 2, 1) := by decide +kernel
theorem dX7_goes_76 : decode cX7_goes 76 = .ok (.ireturn, 1) := by decide +kernel
theorem dX7_goes_77 : decode cX7_goes 77 = .ok (.aload_n 0, 1) := by decide +kernel
theorem dX7_goes_78 : decode cX7_goes 78 = .ok (.iconst 0, 1) := by decide +kernel
theorem dX7_goes_79 : decode cX7_goes 79 = .ok (.putfield 79, 3) := by decide +kernel
theorem dX7_goes_82 : decode cX7_goes 82 = .ok (.iconst 0, 1) := by decide +kernel
theorem dX7_goes_83 : decode cX7_goes 83 = .ok (.istore 7, 2) := by decide +kernel
theorem dX7_goes_85 : decode cX7_goes 85 = .ok (.iload 7, 2) := by decide +kernel
theorem dX7_goes_87 : decode cX7_goes 87 = .ok (.iload_n 2, 1) := by decide +kernel
theorem dX7_goes_88 : decode cX7_goes 88 = .ok (.if_icmp .ge 20, 3) := by decide +kernel
theorem dX7_goes_91 : decode cX7_goes 91 = .ok (.aload_n 0, 1) := by decide +kernel
theorem dX7_goes_92 : decode cX7_goes 92 = .ok (.aload_n 0, 1) := by decide +kernel
theorem dX7_goes_93 : decode cX7_goes 93 = .ok (.getfield 25, 3) := by decide +kernel
theorem dX7_goes_96 : decode cX7_goes 96 = .ok (.iload 7, 2) := by decide +kernel
theorem dX7_goes_98 : decode cX7_goes 98 = .ok (.iaload, 1) := by decide +kernel
theorem dX7_goes_99 : decode cX7_goes 99 = .ok (.invokevirtual 85, 3) := by decide +kernel
theorem dX7_goes_102 : decode cX7_goes 102 = .ok (.iinc 7 1, 3) := by decide +kernel
theorem dX7_goes_105 : decode cX7_goes 105 = .ok (.goto (-20), 3) := by decide +kernel
theorem dX7_goes_108 : decode cX7_goes 108 = .ok (.aload_n 0, 1) := by decide +kernel
theorem dX7_goes_109 : decode cX7_goes 109 = .ok (.iload_n 2, 1) := by decide +kernel
theorem dX7_goes_110 : decode cX7_goes 110 = .ok (.iconst 1, 1) := by decide +kernel
theorem dX7_goes_111 : decode cX7_goes 111 = .ok (.iadd, 1) := by decide +kernel
theorem dX7_goes_112 : decode cX7_goes 112 = .ok (.iload_n 3, 1) := by decide +kernel
theorem dX7_goes_113 : decode cX7_goes 113 = .ok (.iload 4, 2) := by decide +kernel
theorem dX7_goes_115 : decode cX7_goes 115 = .ok (.invokevirtual 100, 3) := by decide +kernel
theorem dX7_goes_118 : decode cX7_goes 118 = .ok (.iload 4, 2) := by decide +kernel
theorem dX7_goes_120 : decode cX7_goes 120 = .ok (.istore 7, 2) := by decide +kernel
theorem dX7_goes_122 : decode cX7_goes 122 = .ok (.iload 7, 2) := by decide +kernel
theorem dX7_goes_124 : decode cX7_goes 124 = .ok (.aload_n 0, 1) := by decide +kernel
theorem dX7_goes_125 : decode cX7_goes 125 = .ok (.getfield 55, 3) := by decide +kernel
theorem dX7_goes_128 : decode cX7_goes 128 = .ok (.if_icmp .ge 20, 3) := by decide +kernel
theorem dX7_goes_131 : decode cX7_goes 131 = .ok (.aload_n 0, 1) := by decide +kernel
theorem dX7_goes_132 : decode cX7_goes 132 = .ok (.aload_n 0, 1) := by decide +kernel
theorem dX7_goes_133 : decode cX7_goes 133 = .ok (.getfield 25, 3) := by decide +kernel
theorem dX7_goes_136 : decode cX7_goes 136 = .ok (.iload 7, 2) := by decide +kernel
theorem dX7_goes_138 : decode cX7_goes 138 = .ok (.iaload, 1) := by decide +kernel
theorem dX7_goes_139 : decode cX7_goes 139 = .ok (.invokevirtual 85, 3) := by decide +kernel
theorem dX7_goes_142 : decode cX7_goes 142 = .ok (.iinc 7 1, 3) := by decide +kernel
theorem dX7_goes_145 : decode cX7_goes 145 = .ok (.goto (-23), 3) := by decide +kernel
theorem dX7_goes_148 : decode cX7_goes 148 = .ok (.aload_n 0, 1) := by decide +kernel
theorem dX7_goes_149 : decode cX7_goes 149 = .ok (.aload_n 0, 1) := by decide +kernel
theorem dX7_goes_150 : decode cX7_goes 150 = .ok (.getfield 79, 3) := by decide +kernel
theorem dX7_goes_153 : decode cX7_goes 153 = .ok (.putfield 55, 3) := by decide +kernel
theorem dX7_goes_156 : decode cX7_goes 156 = .ok (.aload_n 0, 1) := by decide +kernel
theorem dX7_goes_157 : decode cX7_goes 157 = .ok (.getfield 31, 3) := by decide +kernel
theorem dX7_goes_160 : decode cX7_goes 160 = .ok (.iconst 0, 1) := by decide +kernel
theorem dX7_goes_161 : decode cX7_goes 161 = .ok (.aload_n 0, 1) := by decide +kernel
theorem dX7_goes_162 : decode cX7_goes 162 = .ok (.getfield 25, 3) := by decide +kernel
theorem dX7_goes_165 : decode cX7_goes 165 = .ok (.iconst 0, 1) := by decide +kernel
theorem dX7_goes_166 : decode cX7_goes 166 = .ok (.aload_n 0, 1) := by decide +kernel
theorem dX7_goes_167 : decode cX7_goes 167 = .ok (.getfield 55, 3) := by decide +kernel
theorem dX7_goes_170 : decode cX7_goes 170 = .ok (.invokestatic 47, 3) := by decide +kernel
theorem dX7_goes_173 : decode cX7_goes 173 = .ok (.aload_n 0, 1) := by decide +kernel
theorem dX7_goes_174 : decode cX7_goes 174 = .ok (.invokevirtual 58, 3) := by decide +kernel
theorem dX7_goes_177 : decode cX7_goes 177 = .ok (.iconst 0, 1) := by decide +kernel
theorem dX7_goes_178 : decode cX7_goes 178 = .ok (.ireturn, 1) := by decide +kernel
theorem dX7_goesOn_0 : decode cX7_goesOn 0 = .ok (.iconst 0, 1) := by decide +kernel
theorem dX7_goesOn_1 : decode cX7_goesOn 1 = .ok (.istore_n 3, 1) := by decide +kernel
theorem dX7_goesOn_2 : decode cX7_goesOn 2 = .ok (.iconst 0, 1) := by decide +kernel
theorem dX7_goesOn_3 : decode cX7_goesOn 3 = .ok (.istore 4, 2) := by decide +kernel
theorem dX7_goesOn_5 : decode cX7_goesOn 5 = .ok (.iload 4, 2) := by decide +kernel
theorem dX7_goesOn_7 : decode cX7_goesOn 7 = .ok (.ifCond .ne 31, 3) := by decide +kernel
theorem dX7_goesOn_10 : decode cX7_goesOn 10 = .ok (.iload_n 3, 1) := by decide +kernel
theorem dX7_goesOn_11 : decode cX7_goesOn 11 = .ok (.iload_n 2, 1) := by decide +kernel
theorem dX7_goesOn_12 : decode cX7_goesOn 12 = .ok (.if_icmp .ge 26, 3) := by decide +kernel
theorem dX7_goesOn_15 : decode cX7_goesOn 15 = .ok (.aload_n 0, 1) := by decide +kernel
theorem dX7_goesOn_16 : decode cX7_goesOn 16 = .ok (.iload_n 1, 1) := by decide +kernel
theorem dX7_goesOn_17 : decode cX7_goesOn 17 = .ok (.invokevirtual 103, 3) := by decide +kernel
theorem dX7_goesOn_20 : decode cX7_goesOn 20 = .ok (.istore 4, 2) := by decide +kernel
theorem dX7_goesOn_22 : decode cX7_goesOn 22 = .ok (.iload_n 3, 1) := by decide +kernel
theorem dX7_goesOn_23 : decode cX7_goesOn 23 = .ok (.iload 4, 2) := by decide +kernel
theorem dX7_goesOn_25 : decode cX7_goesOn 25 = .ok (.ifCond .ne 7, 3) := by decide +kernel
theorem dX7_goesOn_28 : decode cX7_goesOn 28 = .ok (.iconst 1, 1) := by decide +kernel
theorem dX7_goesOn_29 : decode cX7_goesOn 29 = .ok (.goto 4, 3) := by decide +kernel
theorem dX7_goesOn_32 : decode cX7_goesOn 32 = .ok (.iconst 0, 1) := by decide +kernel
theorem dX7_goesOn_33 : decode cX7_goesOn 33 = .ok (.iadd, 1) := by decide +kernel
theorem dX7_goesOn_34 : decode cX7_goesOn 34 = .ok (.istore_n 3, 1) := by decide +kernel
theorem dX7_goesOn_35 : decode cX7_goesOn 35 = .ok (.goto (-30), 3) := by decide +kernel
theorem dX7_goesOn_38 : decode cX7_goesOn 38 = .ok (.iload 4, 2) := by decide +kernel
theorem dX7_goesOn_40 : decode cX7_goesOn 40 = .ok (.iconst 1, 1) := by decide +kernel
theorem dX7_goesOn_41 : decode cX7_goesOn 41 = .ok (.if_icmp .eq 18, 3) := by decide +kernel
theorem dX7_goesOn_44 : decode cX7_goesOn 44 = .ok (.iload 4, 2) := by decide +kernel
theorem dX7_goesOn_46 : decode cX7_goesOn 46 = .ok (.ifCond .ne 17, 3) := by decide +kernel
theorem dX7_goesOn_49 : decode cX7_goesOn 49 = .ok (.aload_n 0, 1) := by decide +kernel
theorem dX7_goesOn_50 : decode cX7_goesOn 50 = .ok (.iload_n 1, 1) := by decide +kernel
theorem dX7_goesOn_51 : decode cX7_goesOn 51 = .ok (.invokevirtual 93, 3) := by decide +kernel
theorem dX7_goesOn_54 : decode cX7_goesOn 54 = .ok (.bipush (-6), 2) := by decide +kernel
theorem dX7_goesOn_56 : decode cX7_goesOn 56 = .ok (.if_icmp .ne 7, 3) := by decide +kernel
theorem dX7_goesOn_59 : decode cX7_goesOn 59 = .ok (.iconst 1, 1) := by decide +kernel
theorem dX7_goesOn_60 : decode cX7_goesOn 60 = .ok (.goto 4, 3) := by decide +kernel
theorem dX7_goesOn_63 : decode cX7_goesOn 63 = .ok (.iconst 0, 1) := by decide +kernel
theorem dX7_goesOn_64 : decode cX7_goesOn 64 = .ok (.istore 5, 2) := by decide +kernel
theorem dX7_goesOn_66 : decode cX7_goesOn 66 = .ok (.iload 5, 2) := by decide +kernel
theorem dX7_goesOn_68 : decode cX7_goesOn 68 = .ok (.ifCond .eq 7, 3) := by decide +kernel
theorem dX7_goesOn_71 : decode cX7_goesOn 71 = .ok (.iload_n 3, 1) := by decide +kernel
theorem dX7_goesOn_72 : decode cX7_goesOn 72 = .ok (.goto 6, 3) := by decide +kernel
theorem dX7_goesOn_75 : decode cX7_goesOn 75 = .ok (.iconst (-1), 1) := by decide +kernel
theorem dX7_goesOn_76 : decode cX7_goesOn 76 = .ok (.iload_n 3, 1) := by decide +kernel
theorem dX7_goesOn_77 : decode cX7_goesOn 77 = .ok (.isub, 1) := by decide +kernel
theorem dX7_goesOn_78 : decode cX7_goesOn 78 = .ok (.ireturn, 1) := by decide +kernel
theorem dX7_read_0 : decode cX7_read 0 = .ok (.iload_n 1, 1) := by decide +kernel
theorem dX7_read_1 : decode cX7_read 1 = .ok (.invokestatic 106, 3) := by decide +kernel
theorem dX7_read_4 : decode cX7_read 4 = .ok (.ifCond .ne 5, 3) := by decide +kernel
theorem dX7_read_7 : decode cX7_read 7 = .ok (.iconst (-1), 1) := by decide +kernel
theorem dX7_read_8 : decode cX7_read 8 = .ok (.ireturn, 1) := by decide +kernel
theorem dX7_read_9 : decode cX7_read 9 = .ok (.aload_n 0, 1) := by decide +kernel
theorem dX7_read_10 : decode cX7_read 10 = .ok (.invokevirtual 109, 3) := by decide +kernel
theorem dX7_read_13 : decode cX7_read 13 = .ok (.bipush (-6), 2) := by decide +kernel
theorem dX7_read_15 : decode cX7_read 15 = .ok (.if_icmp .eq 6, 3) := by decide +kernel
theorem dX7_read_18 : decode cX7_read 18 = .ok (.bipush (-3), 2) := by decide +kernel
theorem dX7_read_20 : decode cX7_read 20 = .ok (.ireturn, 1) := by decide +kernel
theorem dX7_read_21 : decode cX7_read 21 = .ok (.aload_n 0, 1) := by decide +kernel
theorem dX7_read_22 : decode cX7_read 22 = .ok (.invokevirtual 113, 3) := by decide +kernel
theorem dX7_read_25 : decode cX7_read 25 = .ok (.aload_n 0, 1) := by decide +kernel
theorem dX7_read_26 : decode cX7_read 26 = .ok (.aload_n 0, 1) := by decide +kernel
theorem dX7_read_27 : decode cX7_read 27 = .ok (.getfield 116, 3) := by decide +kernel
theorem dX7_read_30 : decode cX7_read 30 = .ok (.putfield 55, 3) := by decide +kernel
theorem dX7_read_33 : decode cX7_read 33 = .ok (.iconst 0, 1) := by decide +kernel
theorem dX7_read_34 : decode cX7_read 34 = .ok (.istore_n 2, 1) := by decide +kernel
theorem dX7_read_35 : decode cX7_read 35 = .ok (.iload_n 2, 1) := by decide +kernel
theorem dX7_read_36 : decode cX7_read 36 = .ok (.aload_n 0, 1) := by decide +kernel
theorem dX7_read_37 : decode cX7_read 37 = .ok (.getfield 116, 3) := by decide +kernel
theorem dX7_read_40 : decode cX7_read 40 = .ok (.if_icmp .ge 24, 3) := by decide +kernel
theorem dX7_read_43 : decode cX7_read 43 = .ok (.aload_n 0, 1) := by decide +kernel
theorem dX7_read_44 : decode cX7_read 44 = .ok (.getfield 25, 3) := by decide +kernel
theorem dX7_read_47 : decode cX7_read 47 = .ok (.iload_n 2, 1) := by decide +kernel
theorem dX7_read_48 : decode cX7_read 48 = .ok (.aload_n 0, 1) := by decide +kernel
theorem dX7_read_49 : decode cX7_read 49 = .ok (.getfield 22, 3) := by decide +kernel
theorem dX7_read_52 : decode cX7_read 52 = .ok (.iload_n 2, 1) := by decide +kernel
theorem dX7_read_53 : decode cX7_read 53 = .ok (.iaload, 1) := by decide +kernel
theorem dX7_read_54 : decode cX7_read 54 = .ok (.invokestatic 119, 3) := by decide +kernel
theorem dX7_read_57 : decode cX7_read 57 = .ok (.iastore, 1) := by decide +kernel
theorem dX7_read_58 : decode cX7_read 58 = .ok (.iinc 2 1, 3) := by decide +kernel
theorem dX7_read_61 : decode cX7_read 61 = .ok (.goto (-26), 3) := by decide +kernel
theorem dX7_read_64 : decode cX7_read 64 = .ok (.aload_n 0, 1) := by decide +kernel
theorem dX7_read_65 : decode cX7_read 65 = .ok (.iconst 0, 1) := by decide +kernel
theorem dX7_read_66 : decode cX7_read 66 = .ok (.putfield 116, 3) := by decide +kernel
theorem dX7_read_69 : decode cX7_read 69 = .ok (.aload_n 0, 1) := by decide +kernel
theorem dX7_read_70 : decode cX7_read 70 = .ok (.iload_n 1, 1) := by decide +kernel
theorem dX7_read_71 : decode cX7_read 71 = .ok (.invokevirtual 122, 3) := by decide +kernel
theorem dX7_read_74 : decode cX7_read 74 = .ok (.aload_n 0, 1) := by decide +kernel
theorem dX7_read_75 : decode cX7_read 75 = .ok (.getfield 55, 3) := by decide +kernel
theorem dX7_read_78 : decode cX7_read 78 = .ok (.ireturn, 1) := by decide +kernel
theorem dX7_copy_0 : decode cX7_copy 0 = .ok (.iload_n 1, 1) := by decide +kernel
theorem dX7_copy_1 : decode cX7_copy 1 = .ok (.invokestatic 106, 3) := by decide +kernel
theorem dX7_copy_4 : decode cX7_copy 4 = .ok (.ifCond .eq 10, 3) := by decide +kernel
theorem dX7_copy_7 : decode cX7_copy 7 = .ok (.iload_n 2, 1) := by decide +kernel
theorem dX7_copy_8 : decode cX7_copy 8 = .ok (.invokestatic 106, 3) := by decide +kernel
theorem dX7_copy_11 : decode cX7_copy 11 = .ok (.ifCond .ne 5, 3) := by decide +kernel
theorem dX7_copy_14 : decode cX7_copy 14 = .ok (.iconst (-1), 1) := by decide +kernel
theorem dX7_copy_15 : decode cX7_copy 15 = .ok (.ireturn, 1) := by decide +kernel
theorem dX7_copy_16 : decode cX7_copy 16 = .ok (.aload_n 0, 1) := by decide +kernel
theorem dX7_copy_17 : decode cX7_copy 17 = .ok (.invokevirtual 113, 3) := by decide +kernel
theorem dX7_copy_20 : decode cX7_copy 20 = .ok (.aload_n 0, 1) := by decide +kernel
theorem dX7_copy_21 : decode cX7_copy 21 = .ok (.iload_n 1, 1) := by decide +kernel
theorem dX7_copy_22 : decode cX7_copy 22 = .ok (.invokevirtual 125, 3) := by decide +kernel
theorem dX7_copy_25 : decode cX7_copy 25 = .ok (.aload_n 0, 1) := by decide +kernel
theorem dX7_copy_26 : decode cX7_copy 26 = .ok (.iload_n 2, 1) := by decide +kernel
theorem dX7_copy_27 : decode cX7_copy 27 = .ok (.invokevirtual 122, 3) := by decide +kernel
theorem dX7_copy_30 : decode cX7_copy 30 = .ok (.aload_n 0, 1) := by decide +kernel
theorem dX7_copy_31 : decode cX7_copy 31 = .ok (.getfield 55, 3) := by decide +kernel
theorem dX7_copy_34 : decode cX7_copy 34 = .ok (.ireturn, 1) := by decide +kernel
theorem dX7_apply_0 : decode cX7_apply 0 = .ok (.iload_n 1, 1) := by decide +kernel
theorem dX7_apply_1 : decode cX7_apply 1 = .ok (.invokestatic 106, 3) := by decide +kernel
theorem dX7_apply_4 : decode cX7_apply 4 = .ok (.ifCond .eq 17, 3) := by decide +kernel
theorem dX7_apply_7 : decode cX7_apply 7 = .ok (.iload_n 2, 1) := by decide +kernel
theorem dX7_apply_8 : decode cX7_apply 8 = .ok (.invokestatic 106, 3) := by decide +kernel
theorem dX7_apply_11 : decode cX7_apply 11 = .ok (.ifCond .eq 10, 3) := by decide +kernel
theorem dX7_apply_14 : decode cX7_apply 14 = .ok (.iload_n 3, 1) := by decide +kernel
theorem dX7_apply_15 : decode cX7_apply 15 = .ok (.invokestatic 106, 3) := by decide +kernel
theorem dX7_apply_18 : decode cX7_apply 18 = .ok (.ifCond .ne 5, 3) := by decide +kernel
theorem dX7_apply_21 : decode cX7_apply 21 = .ok (.iconst (-1), 1) := by decide +kernel
theorem dX7_apply_22 : decode cX7_apply 22 = .ok (.ireturn, 1) := by decide +kernel
theorem dX7_apply_23 : decode cX7_apply 23 = .ok (.iconst 1, 1) := by decide +kernel
theorem dX7_apply_24 : decode cX7_apply 24 = .ok (.aload_n 0, 1) := by decide +kernel
theorem dX7_apply_25 : decode cX7_apply 25 = .ok (.getfield 7, 3) := by decide +kernel
theorem dX7_apply_28 : decode cX7_apply 28 = .ok (.iload_n 1, 1) := by decide +kernel
theorem dX7_apply_29 : decode cX7_apply 29 = .ok (.iaload, 1) := by decide +kernel
theorem dX7_apply_30 : decode cX7_apply 30 = .ok (.iadd, 1) := by decide +kernel
theorem dX7_apply_31 : decode cX7_apply 31 = .ok (.aload_n 0, 1) := by decide +kernel
theorem dX7_apply_32 : decode cX7_apply 32 = .ok (.getfield 7, 3) := by decide +kernel
theorem dX7_apply_35 : decode cX7_apply 35 = .ok (.iload_n 2, 1) := by decide +kernel
theorem dX7_apply_36 : decode cX7_apply 36 = .ok (.iaload, 1) := by decide +kernel
theorem dX7_apply_37 : decode cX7_apply 37 = .ok (.iadd, 1) := by decide +kernel
theorem dX7_apply_38 : decode cX7_apply 38 = .ok (.istore 4, 2) := by decide +kernel
theorem dX7_apply_40 : decode cX7_apply 40 = .ok (.iload 4, 2) := by decide +kernel
theorem dX7_apply_42 : decode cX7_apply 42 = .ok (.sipush 200, 3) := by decide +kernel
theorem dX7_apply_45 : decode cX7_apply 45 = .ok (.if_icmp .le 6, 3) := by decide +kernel
theorem dX7_apply_48 : decode cX7_apply 48 = .ok (.bipush (-4), 2) := by decide +kernel
theorem dX7_apply_50 : decode cX7_apply 50 = .ok (.ireturn, 1) := by decide +kernel
theorem dX7_apply_51 : decode cX7_apply 51 = .ok (.aload_n 0, 1) := by decide +kernel
theorem dX7_apply_52 : decode cX7_apply 52 = .ok (.invokevirtual 113, 3) := by decide +kernel
theorem dX7_apply_55 : decode cX7_apply 55 = .ok (.aload_n 0, 1) := by decide +kernel
theorem dX7_apply_56 : decode cX7_apply 56 = .ok (.getfield 25, 3) := by decide +kernel
theorem dX7_apply_59 : decode cX7_apply 59 = .ok (.iconst 0, 1) := by decide +kernel
theorem dX7_apply_60 : decode cX7_apply 60 = .ok (.sipush 3000, 3) := by decide +kernel
theorem dX7_apply_63 : decode cX7_apply 63 = .ok (.iastore, 1) := by decide +kernel
theorem dX7_apply_64 : decode cX7_apply 64 = .ok (.aload_n 0, 1) := by decide +kernel
theorem dX7_apply_65 : decode cX7_apply 65 = .ok (.getfield 7, 3) := by decide +kernel
theorem dX7_apply_68 : decode cX7_apply 68 = .ok (.bipush 6, 2) := by decide +kernel
theorem dX7_apply_70 : decode cX7_apply 70 = .ok (.sipush 200, 3) := by decide +kernel
theorem dX7_apply_73 : decode cX7_apply 73 = .ok (.iload_n 1, 1) := by decide +kernel
theorem dX7_apply_74 : decode cX7_apply 74 = .ok (.imul, 1) := by decide +kernel
theorem dX7_apply_75 : decode cX7_apply 75 = .ok (.iadd, 1) := by decide +kernel
theorem dX7_apply_76 : decode cX7_apply 76 = .ok (.aload_n 0, 1) := by decide +kernel
theorem dX7_apply_77 : decode cX7_apply 77 = .ok (.getfield 25, 3) := by decide +kernel
theorem dX7_apply_80 : decode cX7_apply 80 = .ok (.iconst 1, 1) := by decide +kernel
theorem dX7_apply_81 : decode cX7_apply 81 = .ok (.aload_n 0, 1) := by decide +kernel
theorem dX7_apply_82 : decode cX7_apply 82 = .ok (.getfield 7, 3) := by decide +kernel
theorem dX7_apply_85 : decode cX7_apply 85 = .ok (.iload_n 1, 1) := by decide +kernel
theorem dX7_apply_86 : decode cX7_apply 86 = .ok (.iaload, 1) := by decide +kernel
theorem dX7_apply_87 : decode cX7_apply 87 = .ok (.invokestatic 47, 3) := by decide +kernel
theorem dX7_apply_90 : decode cX7_apply 90 = .ok (.aload_n 0, 1) := by decide +kernel
theorem dX7_apply_91 : decode cX7_apply 91 = .ok (.getfield 7, 3) := by decide +kernel
theorem dX7_apply_94 : decode cX7_apply 94 = .ok (.bipush 6, 2) := by decide +kernel
theorem dX7_apply_96 : decode cX7_apply 96 = .ok (.sipush 200, 3) := by decide +kernel
theorem dX7_apply_99 : decode cX7_apply 99 = .ok (.iload_n 2, 1) := by decide +kernel
theorem dX7_apply_100 : decode cX7_apply 100 = .ok (.imul, 1) := by decide +kernel
theorem dX7_apply_101 : decode cX7_apply 101 = .ok (.iadd, 1) := by decide +kernel
theorem dX7_apply_102 : decode cX7_apply 102 = .ok (.aload_n 0, 1) := by decide +kernel
theorem dX7_apply_103 : decode cX7_apply 103 = .ok (.getfield 25, 3) := by decide +kernel
theorem dX7_apply_106 : decode cX7_apply 106 = .ok (.iconst 1, 1) := by decide +kernel
theorem dX7_apply_107 : decode cX7_apply 107 = .ok (.aload_n 0, 1) := by decide +kernel
theorem dX7_apply_108 : decode cX7_apply 108 = .ok (.getfield 7, 3) := by decide +kernel
theorem dX7_apply_111 : decode cX7_apply 111 = .ok (.iload_n 1, 1) := by decide +kernel
theorem dX7_apply_112 : decode cX7_apply 112 = .ok (.iaload, 1) := by decide +kernel
theorem dX7_apply_113 : decode cX7_apply 113 = .ok (.iadd, 1) := by decide +kernel
theorem dX7_apply_114 : decode cX7_apply 114 = .ok (.aload_n 0, 1) := by decide +kernel
theorem dX7_apply_115 : decode cX7_apply 115 = .ok (.getfield 7, 3) := by decide +kernel
theorem dX7_apply_118 : decode cX7_apply 118 = .ok (.iload_n 2, 1) := by decide +kernel
theorem dX7_apply_119 : decode cX7_apply 119 = .ok (.iaload, 1) := by decide +kernel
theorem dX7_apply_120 : decode cX7_apply 120 = .ok (.invokestatic 47, 3) := by decide +kernel
theorem dX7_apply_123 : decode cX7_apply 123 = .ok (.aload_n 0, 1) := by decide +kernel
theorem dX7_apply_124 : decode cX7_apply 124 = .ok (.iload 4, 2) := by decide +kernel
theorem dX7_apply_126 : decode cX7_apply 126 = .ok (.putfield 55, 3) := by decide +kernel
theorem dX7_apply_129 : decode cX7_apply 129 = .ok (.aload_n 0, 1) := by decide +kernel
theorem dX7_apply_130 : decode cX7_apply 130 = .ok (.iload_n 3, 1) := by decide +kernel
theorem dX7_apply_131 : decode cX7_apply 131 = .ok (.invokevirtual 122, 3) := by decide +kernel
theorem dX7_apply_134 : decode cX7_apply 134 = .ok (.aload_n 0, 1) := by decide +kernel
theorem dX7_apply_135 : decode cX7_apply 135 = .ok (.getfield 55, 3) := by decide +kernel
theorem dX7_apply_138 : decode cX7_apply 138 = .ok (.ireturn, 1) := by decide +kernel
theorem dX7_bind_0 : decode cX7_bind 0 = .ok (.iload_n 1, 1) := by decide +kernel
theorem dX7_bind_1 : decode cX7_bind 1 = .ok (.invokestatic 106, 3) := by decide +kernel
theorem dX7_bind_4 : decode cX7_bind 4 = .ok (.ifCond .eq 10, 3) := by decide +kernel
theorem dX7_bind_7 : decode cX7_bind 7 = .ok (.iload_n 3, 1) := by decide +kernel
theorem dX7_bind_8 : decode cX7_bind 8 = .ok (.invokestatic 106, 3) := by decide +kernel
theorem dX7_bind_11 : decode cX7_bind 11 = .ok (.ifCond .ne 5, 3) := by decide +kernel
theorem dX7_bind_14 : decode cX7_bind 14 = .ok (.iconst (-1), 1) := by decide +kernel
theorem dX7_bind_15 : decode cX7_bind 15 = .ok (.ireturn, 1) := by decide +kernel
theorem dX7_bind_16 : decode cX7_bind 16 = .ok (.iload_n 2, 1) := by decide +kernel
theorem dX7_bind_17 : decode cX7_bind 17 = .ok (.iconst 0, 1) := by decide +kernel
theorem dX7_bind_18 : decode cX7_bind 18 = .ok (.iconst 5, 1) := by decide +kernel
theorem dX7_bind_19 : decode cX7_bind 19 = .ok (.invokestatic 51, 3) := by decide +kernel
theorem dX7_bind_22 : decode cX7_bind 22 = .ok (.ifCond .ne 6, 3) := by decide +kernel
theorem dX7_bind_25 : decode cX7_bind 25 = .ok (.bipush (-2), 2) := by decide +kernel
theorem dX7_bind_27 : decode cX7_bind 27 = .ok (.ireturn, 1) := by decide +kernel
theorem dX7_bind_28 : decode cX7_bind 28 = .ok (.aload_n 0, 1) := by decide +kernel
theorem dX7_bind_29 : decode cX7_bind 29 = .ok (.getfield 7, 3) := by decide +kernel
theorem dX7_bind_32 : decode cX7_bind 32 = .ok (.iload_n 1, 1) := by decide +kernel
theorem dX7_bind_33 : decode cX7_bind 33 = .ok (.iaload, 1) := by decide +kernel
theorem dX7_bind_34 : decode cX7_bind 34 = .ok (.sipush 200, 3) := by decide +kernel
theorem dX7_bind_37 : decode cX7_bind 37 = .ok (.if_icmp .ne 6, 3) := by decide +kernel
theorem dX7_bind_40 : decode cX7_bind 40 = .ok (.bipush (-4), 2) := by decide +kernel
theorem dX7_bind_42 : decode cX7_bind 42 = .ok (.ireturn, 1) := by decide +kernel
theorem dX7_bind_43 : decode cX7_bind 43 = .ok (.aload_n 0, 1) := by decide +kernel
theorem dX7_bind_44 : decode cX7_bind 44 = .ok (.invokevirtual 113, 3) := by decide +kernel
theorem dX7_bind_47 : decode cX7_bind 47 = .ok (.aload_n 0, 1) := by decide +kernel
theorem dX7_bind_48 : decode cX7_bind 48 = .ok (.iload_n 1, 1) := by decide +kernel
theorem dX7_bind_49 : decode cX7_bind 49 = .ok (.invokevirtual 125, 3) := by decide +kernel
theorem dX7_bind_52 : decode cX7_bind 52 = .ok (.iconst 0, 1) := by decide +kernel
theorem dX7_bind_53 : decode cX7_bind 53 = .ok (.istore 4, 2) := by decide +kernel
theorem dX7_bind_55 : decode cX7_bind 55 = .ok (.aload_n 0, 1) := by decide +kernel
theorem dX7_bind_56 : decode cX7_bind 56 = .ok (.iconst 0, 1) := by decide +kernel
theorem dX7_bind_57 : decode cX7_bind 57 = .ok (.putfield 79, 3) := by decide +kernel
theorem dX7_bind_60 : decode cX7_bind 60 = .ok (.aload_n 0, 1) := by decide +kernel
theorem dX7_bind_61 : decode cX7_bind 61 = .ok (.sipush 2000, 3) := by decide +kernel
theorem dX7_bind_64 : decode cX7_bind 64 = .ok (.invokevirtual 85, 3) := by decide +kernel
theorem dX7_bind_67 : decode cX7_bind 67 = .ok (.iconst 0, 1) := by decide +kernel
theorem dX7_bind_68 : decode cX7_bind 68 = .ok (.istore 5, 2) := by decide +kernel
theorem dX7_bind_70 : decode cX7_bind 70 = .ok (.iload 5, 2) := by decide +kernel
theorem dX7_bind_72 : decode cX7_bind 72 = .ok (.aload_n 0, 1) := by decide +kernel
theorem dX7_bind_73 : decode cX7_bind 73 = .ok (.getfield 55, 3) := by decide +kernel
theorem dX7_bind_76 : decode cX7_bind 76 = .ok (.if_icmp .ge 74, 3) := by decide +kernel
theorem dX7_bind_79 : decode cX7_bind 79 = .ok (.aload_n 0, 1) := by decide +kernel
theorem dX7_bind_80 : decode cX7_bind 80 = .ok (.getfield 25, 3) := by decide +kernel
theorem dX7_bind_83 : decode cX7_bind 83 = .ok (.iload 5, 2) := by decide +kernel
theorem dX7_bind_85 : decode cX7_bind 85 = .ok (.iaload, 1) := by decide +kernel
theorem dX7_bind_86 : decode cX7_bind 86 = .ok (.sipush 1000, 3) := by decide +kernel
theorem dX7_bind_89 : decode cX7_bind 89 = .ok (.iload_n 2, 1) := by decide +kernel
theorem dX7_bind_90 : decode cX7_bind 90 = .ok (.iadd, 1) := by decide +kernel
theorem dX7_bind_91 : decode cX7_bind 91 = .ok (.if_icmp .ne 7, 3) := by decide +kernel
theorem dX7_bind_94 : decode cX7_bind 94 = .ok (.iconst 1, 1) := by decide +kernel
theorem dX7_bind_95 : decode cX7_bind 95 = .ok (.goto 4, 3) := by decide +kernel
theorem dX7_bind_98 : decode cX7_bind 98 = .ok (.iconst 0, 1) := by decide +kernel
theorem dX7_bind_99 : decode cX7_bind 99 = .ok (.istore 6, 2) := by decide +kernel
theorem dX7_bind_101 : decode cX7_bind 101 = .ok (.iload 4, 2) := by decide +kernel
theorem dX7_bind_103 : decode cX7_bind 103 = .ok (.iload 6, 2) := by decide +kernel
theorem dX7_bind_105 : decode cX7_bind 105 = .ok (.ifCond .eq 7, 3) := by decide +kernel
theorem dX7_bind_108 : decode cX7_bind 108 = .ok (.iconst 1, 1) := by decide +kernel
theorem dX7_bind_109 : decode cX7_bind 109 = .ok (.goto 4, 3) := by decide +kernel
theorem dX7_bind_112 : decode cX7_bind 112 = .ok (.iconst 0, 1) := by decide +kernel
theorem dX7_bind_113 : decode cX7_bind 113 = .ok (.iadd, 1) := by decide +kernel
theorem dX7_bind_114 : decode cX7_bind 114 = .ok (.istore 4, 2) := by decide +kernel
theorem dX7_bind_116 : decode cX7_bind 116 = .ok (.aload_n 0, 1) := by decide +kernel
theorem dX7_bind_117 : decode cX7_bind 117 = .ok (.iload 6, 2) := by decide +kernel
theorem dX7_bind_119 : decode cX7_bind 119 = .ok (.ifCond .eq 15, 3) := by decide +kernel
theorem dX7_bind_122 : decode cX7_bind 122 = .ok (.iconst 0, 1) := by decide +kernel
theorem dX7_bind_123 : decode cX7_bind 123 = .ok (.aload_n 0, 1) := by decide +kernel
theorem dX7_bind_124 : decode cX7_bind 124 = .ok (.getfield 28, 3) := by decide +kernel
theorem dX7_bind_127 : decode cX7_bind 127 = .ok (.iload 5, 2) := by decide +kernel
theorem dX7_bind_129 : decode cX7_bind 129 = .ok (.iaload, 1) := by decide +kernel
theorem dX7_bind_130 : decode cX7_bind 130 = .ok (.iadd, 1) := by decide +kernel
theorem dX7_bind_131 : decode cX7_bind 131 = .ok (.goto 10, 3) := by decide +kernel
theorem dX7_bind_134 : decode cX7_bind 134 = .ok (.aload_n 0, 1) := by decide +kernel
theorem dX7_bind_135 : decode cX7_bind 135 = .ok (.getfield 25, 3) := by decide +kernel
theorem dX7_bind_138 : decode cX7_bind 138 = .ok (.iload 5, 2) := by decide +kernel
theorem dX7_bind_140 : decode cX7_bind 140 = .ok (.iaload, 1) := by decide +kernel
theorem dX7_bind_141 : decode cX7_bind 141 = .ok (.invokevirtual 85, 3) := by decide +kernel
theorem dX7_bind_144 : decode cX7_bind 144 = .ok (.iinc 5 1, 3) := by decide +kernel
theorem dX7_bind_147 : decode cX7_bind 147 = .ok (.goto (-77), 3) := by decide +kernel
theorem dX7_bind_150 : decode cX7_bind 150 = .ok (.aload_n 0, 1) := by decide +kernel
theorem dX7_bind_151 : decode cX7_bind 151 = .ok (.aload_n 0, 1) := by decide +kernel
theorem dX7_bind_152 : decode cX7_bind 152 = .ok (.getfield 79, 3) := by decide +kernel
theorem dX7_bind_155 : decode cX7_bind 155 = .ok (.putfield 55, 3) := by decide +kernel
theorem dX7_bind_158 : decode cX7_bind 158 = .ok (.aload_n 0, 1) := by decide +kernel
theorem dX7_bind_159 : decode cX7_bind 159 = .ok (.getfield 31, 3) := by decide +kernel
theorem dX7_bind_162 : decode cX7_bind 162 = .ok (.iconst 0, 1) := by decide +kernel
theorem dX7_bind_163 : decode cX7_bind 163 = .ok (.aload_n 0, 1) := by decide +kernel
theorem dX7_bind_164 : decode cX7_bind 164 = .ok (.getfield 25, 3) := by decide +kernel
theorem dX7_bind_167 : decode cX7_bind 167 = .ok (.iconst 0, 1) := by decide +kernel
theorem dX7_bind_168 : decode cX7_bind 168 = .ok (.aload_n 0, 1) := by decide +kernel
theorem dX7_bind_169 : decode cX7_bind 169 = .ok (.getfield 55, 3) := by decide +kernel
theorem dX7_bind_172 : decode cX7_bind 172 = .ok (.invokestatic 47, 3) := by decide +kernel
theorem dX7_bind_175 : decode cX7_bind 175 = .ok (.aload_n 0, 1) := by decide +kernel
theorem dX7_bind_176 : decode cX7_bind 176 = .ok (.iload_n 3, 1) := by decide +kernel
theorem dX7_bind_177 : decode cX7_bind 177 = .ok (.invokevirtual 122, 3) := by decide +kernel
theorem dX7_bind_180 : decode cX7_bind 180 = .ok (.iload 4, 2) := by decide +kernel
theorem dX7_bind_182 : decode cX7_bind 182 = .ok (.ireturn, 1) := by decide +kernel
theorem dX7_step_0 : decode cX7_step 0 = .ok (.iload_n 1, 1) := by decide +kernel
theorem dX7_step_1 : decode cX7_step 1 = .ok (.invokestatic 106, 3) := by decide +kernel
theorem dX7_step_4 : decode cX7_step 4 = .ok (.ifCond .eq 12, 3) := by decide +kernel
theorem dX7_step_7 : decode cX7_step 7 = .ok (.iload_n 2, 1) := by decide +kernel
theorem dX7_step_8 : decode cX7_step 8 = .ok (.iconst 0, 1) := by decide +kernel
theorem dX7_step_9 : decode cX7_step 9 = .ok (.iconst 2, 1) := by decide +kernel
theorem dX7_step_10 : decode cX7_step 10 = .ok (.invokestatic 51, 3) := by decide +kernel
theorem dX7_step_13 : decode cX7_step 13 = .ok (.ifCond .ne 17, 3) := by decide +kernel
theorem dX7_step_16 : decode cX7_step 16 = .ok (.iload_n 1, 1) := by decide +kernel
theorem dX7_step_17 : decode cX7_step 17 = .ok (.invokestatic 106, 3) := by decide +kernel
theorem dX7_step_20 : decode cX7_step 20 = .ok (.ifCond .eq 8, 3) := by decide +kernel
theorem dX7_step_23 : decode cX7_step 23 = .ok (.bipush (-2), 2) := by decide +kernel
theorem dX7_step_25 : decode cX7_step 25 = .ok (.goto 4, 3) := by decide +kernel
theorem dX7_step_28 : decode cX7_step 28 = .ok (.iconst (-1), 1) := by decide +kernel
theorem dX7_step_29 : decode cX7_step 29 = .ok (.ireturn, 1) := by decide +kernel
theorem dX7_step_30 : decode cX7_step 30 = .ok (.aload_n 0, 1) := by decide +kernel
theorem dX7_step_31 : decode cX7_step 31 = .ok (.iload_n 1, 1) := by decide +kernel
theorem dX7_step_32 : decode cX7_step 32 = .ok (.invokevirtual 125, 3) := by decide +kernel
theorem dX7_step_35 : decode cX7_step 35 = .ok (.aload_n 0, 1) := by decide +kernel
theorem dX7_step_36 : decode cX7_step 36 = .ok (.iload_n 2, 1) := by decide +kernel
theorem dX7_step_37 : decode cX7_step 37 = .ok (.invokevirtual 103, 3) := by decide +kernel
theorem dX7_step_40 : decode cX7_step 40 = .ok (.istore_n 3, 1) := by decide +kernel
theorem dX7_step_41 : decode cX7_step 41 = .ok (.iload_n 3, 1) := by decide +kernel
theorem dX7_step_42 : decode cX7_step 42 = .ok (.ifCond .eq 16, 3) := by decide +kernel
theorem dX7_step_45 : decode cX7_step 45 = .ok (.iload_n 3, 1) := by decide +kernel
theorem dX7_step_46 : decode cX7_step 46 = .ok (.iconst 1, 1) := by decide +kernel
theorem dX7_step_47 : decode cX7_step 47 = .ok (.if_icmp .ne 8, 3) := by decide +kernel
theorem dX7_step_50 : decode cX7_step 50 = .ok (.bipush (-5), 2) := by decide +kernel
theorem dX7_step_52 : decode cX7_step 52 = .ok (.goto 5, 3) := by decide +kernel
theorem dX7_step_55 : decode cX7_step 55 = .ok (.bipush (-4), 2) := by decide +kernel
theorem dX7_step_57 : decode cX7_step 57 = .ok (.ireturn, 1) := by decide +kernel
theorem dX7_step_58 : decode cX7_step 58 = .ok (.aload_n 0, 1) := by decide +kernel
theorem dX7_step_59 : decode cX7_step 59 = .ok (.invokevirtual 113, 3) := by decide +kernel
theorem dX7_step_62 : decode cX7_step 62 = .ok (.aload_n 0, 1) := by decide +kernel
theorem dX7_step_63 : decode cX7_step 63 = .ok (.iload_n 1, 1) := by decide +kernel
theorem dX7_step_64 : decode cX7_step 64 = .ok (.invokevirtual 122, 3) := by decide +kernel
