theorem d_Md_node_0 : decode b_Md_node 0 = .ok (.iload_n 0, 1) := by decide +kernel
theorem d_Md_node_1 : decode b_Md_node 1 = .ok (.ifCond .lt 13, 3) := by decide +kernel
theorem d_Md_node_4 : decode b_Md_node 4 = .ok (.iload_n 0, 1) := by decide +kernel
theorem d_Md_node_5 : decode b_Md_node 5 = .ok (.bipush 6, 2) := by decide +kernel
theorem d_Md_node_7 : decode b_Md_node 7 = .ok (.if_icmp .ge 7, 3) := by decide +kernel
theorem d_Md_node_10 : decode b_Md_node 10 = .ok (.iconst 1, 1) := by decide +kernel
theorem d_Md_node_11 : decode b_Md_node 11 = .ok (.goto 4, 3) := by decide +kernel
theorem d_Md_node_14 : decode b_Md_node 14 = .ok (.iconst 0, 1) := by decide +kernel
theorem d_Md_node_15 : decode b_Md_node 15 = .ok (.ireturn, 1) := by decide +kernel
theorem d_Md_cell_0 : decode b_Md_cell 0 = .ok (.iload_n 0, 1) := by decide +kernel
theorem d_Md_cell_1 : decode b_Md_cell 1 = .ok (.invokestatic 117, 3) := by decide +kernel
theorem d_Md_cell_4 : decode b_Md_cell 4 = .ok (.ifCond .eq 27, 3) := by decide +kernel
theorem d_Md_cell_7 : decode b_Md_cell 7 = .ok (.iload_n 1, 1) := by decide +kernel
theorem d_Md_cell_8 : decode b_Md_cell 8 = .ok (.ifCond .lt 23, 3) := by decide +kernel
theorem d_Md_cell_11 : decode b_Md_cell 11 = .ok (.iload_n 1, 1) := by decide +kernel
theorem d_Md_cell_12 : decode b_Md_cell 12 = .ok (.iconst 4, 1) := by decide +kernel
theorem d_Md_cell_13 : decode b_Md_cell 13 = .ok (.if_icmp .gt 18, 3) := by decide +kernel
theorem d_Md_cell_16 : decode b_Md_cell 16 = .ok (.iload_n 2, 1) := by decide +kernel
theorem d_Md_cell_17 : decode b_Md_cell 17 = .ok (.iconst 1, 1) := by decide +kernel
theorem d_Md_cell_18 : decode b_Md_cell 18 = .ok (.if_icmp .lt 13, 3) := by decide +kernel
theorem d_Md_cell_21 : decode b_Md_cell 21 = .ok (.iload_n 2, 1) := by decide +kernel
theorem d_Md_cell_22 : decode b_Md_cell 22 = .ok (.bipush 8, 2) := by decide +kernel
theorem d_Md_cell_24 : decode b_Md_cell 24 = .ok (.if_icmp .gt 7, 3) := by decide +kernel
theorem d_Md_cell_27 : decode b_Md_cell 27 = .ok (.iconst 1, 1) := by decide +kernel
theorem d_Md_cell_28 : decode b_Md_cell 28 = .ok (.goto 4, 3) := by decide +kernel
theorem d_Md_cell_31 : decode b_Md_cell 31 = .ok (.iconst 0, 1) := by decide +kernel
theorem d_Md_cell_32 : decode b_Md_cell 32 = .ok (.ireturn, 1) := by decide +kernel
theorem d_Md_count_0 : decode b_Md_count 0 = .ok (.iconst 0, 1) := by decide +kernel
theorem d_Md_count_1 : decode b_Md_count 1 = .ok (.istore_n 1, 1) := by decide +kernel
theorem d_Md_count_2 : decode b_Md_count 2 = .ok (.iconst 0, 1) := by decide +kernel
theorem d_Md_count_3 : decode b_Md_count 3 = .ok (.istore_n 2, 1) := by decide +kernel
theorem d_Md_count_4 : decode b_Md_count 4 = .ok (.iload_n 2, 1) := by decide +kernel
theorem d_Md_count_5 : decode b_Md_count 5 = .ok (.bipush 6, 2) := by decide +kernel
theorem d_Md_count_7 : decode b_Md_count 7 = .ok (.if_icmp .ge 17, 3) := by decide +kernel
theorem d_Md_count_10 : decode b_Md_count 10 = .ok (.iload_n 1, 1) := by decide +kernel
theorem d_Md_count_11 : decode b_Md_count 11 = .ok (.iload_n 0, 1) := by decide +kernel
theorem d_Md_count_12 : decode b_Md_count 12 = .ok (.iload_n 2, 1) := by decide +kernel
theorem d_Md_count_13 : decode b_Md_count 13 = .ok (.ishr, 1) := by decide +kernel
theorem d_Md_count_14 : decode b_Md_count 14 = .ok (.iconst 1, 1) := by decide +kernel
theorem d_Md_count_15 : decode b_Md_count 15 = .ok (.iand, 1) := by decide +kernel
theorem d_Md_count_16 : decode b_Md_count 16 = .ok (.iadd, 1) := by decide +kernel
theorem d_Md_count_17 : decode b_Md_count 17 = .ok (.istore_n 1, 1) := by decide +kernel
theorem d_Md_count_18 : decode b_Md_count 18 = .ok (.iinc 2 1, 3) := by decide +kernel
theorem d_Md_count_21 : decode b_Md_count 21 = .ok (.goto (-17), 3) := by decide +kernel
theorem d_Md_count_24 : decode b_Md_count 24 = .ok (.iload_n 1, 1) := by decide +kernel
theorem d_Md_count_25 : decode b_Md_count 25 = .ok (.ireturn, 1) := by decide +kernel
theorem d_Md_execute_0 : decode b_Md_execute 0 = .ok (.aload_n 0, 1) := by decide +kernel
theorem d_Md_execute_1 : decode b_Md_execute 1 = .ok (.dup, 1) := by decide +kernel
theorem d_Md_execute_2 : decode b_Md_execute 2 = .ok (.getfield 90, 3) := by decide +kernel
theorem d_Md_execute_5 : decode b_Md_execute 5 = .ok (.iconst 1, 1) := by decide +kernel
theorem d_Md_execute_6 : decode b_Md_execute 6 = .ok (.iadd, 1) := by decide +kernel
theorem d_Md_execute_7 : decode b_Md_execute 7 = .ok (.putfield 90, 3) := by decide +kernel
theorem d_Md_execute_10 : decode b_Md_execute 10 = .ok (.iload_n 1, 1) := by decide +kernel
theorem d_Md_execute_11 : decode b_Md_execute 11 = .ok (.iconst 1, 1) := by decide +kernel
theorem d_Md_execute_12 : decode b_Md_execute 12 = .ok (.if_icmp .lt 12, 3) := by decide +kernel
theorem d_Md_execute_15 : decode b_Md_execute 15 = .ok (.aload_n 0, 1) := by decide +kernel
theorem d_Md_execute_16 : decode b_Md_execute 16 = .ok (.getfield 83, 3) := by decide +kernel
theorem d_Md_execute_19 : decode b_Md_execute 19 = .ok (.iload_n 1, 1) := by decide +kernel
theorem d_Md_execute_20 : decode b_Md_execute 20 = .ok (.baload, 1) := by decide +kernel
theorem d_Md_execute_21 : decode b_Md_execute 21 = .ok (.ifCond .eq 4, 3) := by decide +kernel
theorem d_Md_execute_24 : decode b_Md_execute 24 = .ok (.return_, 1) := by decide +kernel
theorem d_Md_execute_25 : decode b_Md_execute 25 = .ok (.aload_n 0, 1) := by decide +kernel
theorem d_Md_execute_26 : decode b_Md_execute 26 = .ok (.getfield 13, 3) := by decide +kernel
theorem d_Md_execute_29 : decode b_Md_execute 29 = .ok (.iload_n 1, 1) := by decide +kernel
theorem d_Md_execute_30 : decode b_Md_execute 30 = .ok (.iaload, 1) := by decide +kernel
theorem d_Md_execute_31 : decode b_Md_execute 31 = .ok (.istore_n 2, 1) := by decide +kernel
theorem d_Md_execute_32 : decode b_Md_execute 32 = .ok (.aload_n 0, 1) := by decide +kernel
theorem d_Md_execute_33 : decode b_Md_execute 33 = .ok (.getfield 16, 3) := by decide +kernel
theorem d_Md_execute_36 : decode b_Md_execute 36 = .ok (.iload_n 1, 1) := by decide +kernel
theorem d_Md_execute_37 : decode b_Md_execute 37 = .ok (.iaload, 1) := by decide +kernel
theorem d_Md_execute_38 : decode b_Md_execute 38 = .ok (.istore_n 3, 1) := by decide +kernel
theorem d_Md_execute_39 : decode b_Md_execute 39 = .ok (.aload_n 0, 1) := by decide +kernel
theorem d_Md_execute_40 : decode b_Md_execute 40 = .ok (.getfield 80, 3) := by decide +kernel
theorem d_Md_execute_43 : decode b_Md_execute 43 = .ok (.iload_n 2, 1) := by decide +kernel
theorem d_Md_execute_44 : decode b_Md_execute 44 = .ok (.iaload, 1) := by decide +kernel
theorem d_Md_execute_45 : decode b_Md_execute 45 = .ok (.istore 4, 2) := by decide +kernel
theorem d_Md_execute_47 : decode b_Md_execute 47 = .ok (.aload_n 0, 1) := by decide +kernel
theorem d_Md_execute_48 : decode b_Md_execute 48 = .ok (.getfield 83, 3) := by decide +kernel
theorem d_Md_execute_51 : decode b_Md_execute 51 = .ok (.iload_n 1, 1) := by decide +kernel
theorem d_Md_execute_52 : decode b_Md_execute 52 = .ok (.iconst 1, 1) := by decide +kernel
theorem d_Md_execute_53 : decode b_Md_execute 53 = .ok (.bastore, 1) := by decide +kernel
theorem d_Md_execute_54 : decode b_Md_execute 54 = .ok (.aload_n 0, 1) := by decide +kernel
theorem d_Md_execute_55 : decode b_Md_execute 55 = .ok (.getfield 7, 3) := by decide +kernel
theorem d_Md_execute_58 : decode b_Md_execute 58 = .ok (.iload_n 1, 1) := by decide +kernel
theorem d_Md_execute_59 : decode b_Md_execute 59 = .ok (.iaload, 1) := by decide +kernel
theorem d_Md_execute_60 : decode b_Md_execute 60 = .ok (.iconst 3, 1) := by decide +kernel
theorem d_Md_execute_61 : decode b_Md_execute 61 = .ok (.if_icmp .ne 90, 3) := by decide +kernel
theorem d_Md_execute_64 : decode b_Md_execute 64 = .ok (.aload_n 0, 1) := by decide +kernel
theorem d_Md_execute_65 : decode b_Md_execute 65 = .ok (.getfield 87, 3) := by decide +kernel
theorem d_Md_execute_68 : decode b_Md_execute 68 = .ok (.iload_n 1, 1) := by decide +kernel
theorem d_Md_execute_69 : decode b_Md_execute 69 = .ok (.aload_n 0, 1) := by decide +kernel
theorem d_Md_execute_70 : decode b_Md_execute 70 = .ok (.getfield 93, 3) := by decide +kernel
theorem d_Md_execute_73 : decode b_Md_execute 73 = .ok (.iconst 4, 1) := by decide +kernel
theorem d_Md_execute_74 : decode b_Md_execute 74 = .ok (.if_icmp .ne 7, 3) := by decide +kernel
theorem d_Md_execute_77 : decode b_Md_execute 77 = .ok (.iconst (-1), 1) := by decide +kernel
theorem d_Md_execute_78 : decode b_Md_execute 78 = .ok (.goto 9, 3) := by decide +kernel
theorem d_Md_execute_81 : decode b_Md_execute 81 = .ok (.aload_n 0, 1) := by decide +kernel
theorem d_Md_execute_82 : decode b_Md_execute 82 = .ok (.getfield 93, 3) := by decide +kernel
theorem d_Md_execute_85 : decode b_Md_execute 85 = .ok (.iconst 1, 1) := by decide +kernel
theorem d_Md_execute_86 : decode b_Md_execute 86 = .ok (.iadd, 1) := by decide +kernel
theorem d_Md_execute_87 : decode b_Md_execute 87 = .ok (.iastore, 1) := by decide +kernel
theorem d_Md_execute_88 : decode b_Md_execute 88 = .ok (.aload_n 0, 1) := by decide +kernel
theorem d_Md_execute_89 : decode b_Md_execute 89 = .ok (.aload_n 0, 1) := by decide +kernel
theorem d_Md_execute_90 : decode b_Md_execute 90 = .ok (.getfield 93, 3) := by decide +kernel
theorem d_Md_execute_93 : decode b_Md_execute 93 = .ok (.iconst 4, 1) := by decide +kernel
theorem d_Md_execute_94 : decode b_Md_execute 94 = .ok (.if_icmp .ne 10, 3) := by decide +kernel
theorem d_Md_execute_97 : decode b_Md_execute 97 = .ok (.aload_n 0, 1) := by decide +kernel
theorem d_Md_execute_98 : decode b_Md_execute 98 = .ok (.getfield 96, 3) := by decide +kernel
theorem d_Md_execute_101 : decode b_Md_execute 101 = .ok (.goto 4, 3) := by decide +kernel
theorem d_Md_execute_104 : decode b_Md_execute 104 = .ok (.iload_n 3, 1) := by decide +kernel
theorem d_Md_execute_105 : decode b_Md_execute 105 = .ok (.putfield 96, 3) := by decide +kernel
theorem d_Md_execute_108 : decode b_Md_execute 108 = .ok (.aload_n 0, 1) := by decide +kernel
theorem d_Md_execute_109 : decode b_Md_execute 109 = .ok (.aload_n 0, 1) := by decide +kernel
theorem d_Md_execute_110 : decode b_Md_execute 110 = .ok (.getfield 93, 3) := by decide +kernel
theorem d_Md_execute_113 : decode b_Md_execute 113 = .ok (.iconst 4, 1) := by decide +kernel
theorem d_Md_execute_114 : decode b_Md_execute 114 = .ok (.if_icmp .ne 10, 3) := by decide +kernel
theorem d_Md_execute_117 : decode b_Md_execute 117 = .ok (.aload_n 0, 1) := by decide +kernel
theorem d_Md_execute_118 : decode b_Md_execute 118 = .ok (.getfield 90, 3) := by decide +kernel
theorem d_Md_execute_121 : decode b_Md_execute 121 = .ok (.goto 4, 3) := by decide +kernel
theorem d_Md_execute_124 : decode b_Md_execute 124 = .ok (.iconst 0, 1) := by decide +kernel
theorem d_Md_execute_125 : decode b_Md_execute 125 = .ok (.putfield 90, 3) := by decide +kernel
theorem d_Md_execute_128 : decode b_Md_execute 128 = .ok (.aload_n 0, 1) := by decide +kernel
theorem d_Md_execute_129 : decode b_Md_execute 129 = .ok (.aload_n 0, 1) := by decide +kernel
theorem d_Md_execute_130 : decode b_Md_execute 130 = .ok (.getfield 93, 3) := by decide +kernel
theorem d_Md_execute_133 : decode b_Md_execute 133 = .ok (.iconst 4, 1) := by decide +kernel
theorem d_Md_execute_134 : decode b_Md_execute 134 = .ok (.if_icmp .ne 7, 3) := by decide +kernel
theorem d_Md_execute_137 : decode b_Md_execute 137 = .ok (.iconst 4, 1) := by decide +kernel
theorem d_Md_execute_138 : decode b_Md_execute 138 = .ok (.goto 9, 3) := by decide +kernel
theorem d_Md_execute_141 : decode b_Md_execute 141 = .ok (.aload_n 0, 1) := by decide +kernel
theorem d_Md_execute_142 : decode b_Md_execute 142 = .ok (.getfield 93, 3) := by decide +kernel
theorem d_Md_execute_145 : decode b_Md_execute 145 = .ok (.iconst 1, 1) := by decide +kernel
theorem d_Md_execute_146 : decode b_Md_execute 146 = .ok (.iadd, 1) := by decide +kernel
theorem d_Md_execute_147 : decode b_Md_execute 147 = .ok (.putfield 93, 3) := by decide +kernel
theorem d_Md_execute_150 : decode b_Md_execute 150 = .ok (.return_, 1) := by decide +kernel
theorem d_Md_execute_151 : decode b_Md_execute 151 = .ok (.aload_n 0, 1) := by decide +kernel
theorem d_Md_execute_152 : decode b_Md_execute 152 = .ok (.getfield 80, 3) := by decide +kernel
theorem d_Md_execute_155 : decode b_Md_execute 155 = .ok (.iload_n 2, 1) := by decide +kernel
theorem d_Md_execute_156 : decode b_Md_execute 156 = .ok (.aload_n 0, 1) := by decide +kernel
theorem d_Md_execute_157 : decode b_Md_execute 157 = .ok (.getfield 7, 3) := by decide +kernel
theorem d_Md_execute_160 : decode b_Md_execute 160 = .ok (.iload_n 1, 1) := by decide +kernel
theorem d_Md_execute_161 : decode b_Md_execute 161 = .ok (.iaload, 1) := by decide +kernel
theorem d_Md_execute_162 : decode b_Md_execute 162 = .ok (.ifCond .ne 8, 3) := by decide +kernel
theorem d_Md_execute_165 : decode b_Md_execute 165 = .ok (.iload 4, 2) := by decide +kernel
theorem d_Md_execute_167 : decode b_Md_execute 167 = .ok (.goto 21, 3) := by decide +kernel
theorem d_Md_execute_170 : decode b_Md_execute 170 = .ok (.aload_n 0, 1) := by decide +kernel
theorem d_Md_execute_171 : decode b_Md_execute 171 = .ok (.getfield 7, 3) := by decide +kernel
theorem d_Md_execute_174 : decode b_Md_execute 174 = .ok (.iload_n 1, 1) := by decide +kernel
theorem d_Md_execute_175 : decode b_Md_execute 175 = .ok (.iaload, 1) := by decide +kernel
theorem d_Md_execute_176 : decode b_Md_execute 176 = .ok (.iconst 1, 1) := by decide +kernel
theorem d_Md_execute_177 : decode b_Md_execute 177 = .ok (.if_icmp .ne 7, 3) := by decide +kernel
theorem d_Md_execute_180 : decode b_Md_execute 180 = .ok (.iload_n 3, 1) := by decide +kernel
theorem d_Md_execute_181 : decode b_Md_execute 181 = .ok (.goto 7, 3) := by decide +kernel
theorem d_Md_execute_184 : decode b_Md_execute 184 = .ok (.iload 4, 2) := by decide +kernel
theorem d_Md_execute_186 : decode b_Md_execute 186 = .ok (.iload_n 3, 1) := by decide +kernel
theorem d_Md_execute_187 : decode b_Md_execute 187 = .ok (.iadd, 1) := by decide +kernel
theorem d_Md_execute_188 : decode b_Md_execute 188 = .ok (.iastore, 1) := by decide +kernel
theorem d_Md_execute_189 : decode b_Md_execute 189 = .ok (.aload_n 0, 1) := by decide +kernel
theorem d_Md_execute_190 : decode b_Md_execute 190 = .ok (.getfield 87, 3) := by decide +kernel
theorem d_Md_execute_193 : decode b_Md_execute 193 = .ok (.iload_n 1, 1) := by decide +kernel
theorem d_Md_execute_194 : decode b_Md_execute 194 = .ok (.aload_n 0, 1) := by decide +kernel
theorem d_Md_execute_195 : decode b_Md_execute 195 = .ok (.getfield 7, 3) := by decide +kernel
theorem d_Md_execute_198 : decode b_Md_execute 198 = .ok (.iload_n 1, 1) := by decide +kernel
theorem d_Md_execute_199 : decode b_Md_execute 199 = .ok (.iaload, 1) := by decide +kernel
theorem d_Md_execute_200 : decode b_Md_execute 200 = .ok (.iconst 2, 1) := by decide +kernel
theorem d_Md_execute_201 : decode b_Md_execute 201 = .ok (.if_icmp .ne 12, 3) := by decide +kernel
theorem d_Md_execute_204 : decode b_Md_execute 204 = .ok (.aload_n 0, 1) := by decide +kernel
theorem d_Md_execute_205 : decode b_Md_execute 205 = .ok (.getfield 80, 3) := by decide +kernel
theorem d_Md_execute_208 : decode b_Md_execute 208 = .ok (.iload_n 2, 1) := by decide +kernel
theorem d_Md_execute_209 : decode b_Md_execute 209 = .ok (.iaload, 1) := by decide +kernel
theorem d_Md_execute_210 : decode b_Md_execute 210 = .ok (.goto 5, 3) := by decide +kernel
theorem d_Md_execute_213 : decode b_Md_execute 213 = .ok (.iload 4, 2) := by decide +kernel
theorem d_Md_execute_215 : decode b_Md_execute 215 = .ok (.iastore, 1) := by decide +kernel
theorem d_Md_execute_216 : decode b_Md_execute 216 = .ok (.return_, 1) := by decide +kernel
theorem d_Md_replay_0 : decode b_Md_replay 0 = .ok (.iconst 0, 1) := by decide +kernel
theorem d_Md_replay_1 : decode b_Md_replay 1 = .ok (.istore_n 3, 1) := by decide +kernel
theorem d_Md_replay_2 : decode b_Md_replay 2 = .ok (.iload_n 3, 1) := by decide +kernel
theorem d_Md_replay_3 : decode b_Md_replay 3 = .ok (.iconst 4, 1) := by decide +kernel
theorem d_Md_replay_4 : decode b_Md_replay 4 = .ok (.if_icmp .ge 16, 3) := by decide +kernel
theorem d_Md_replay_7 : decode b_Md_replay 7 = .ok (.aload_n 0, 1) := by decide +kernel
theorem d_Md_replay_8 : decode b_Md_replay 8 = .ok (.getfield 80, 3) := by decide +kernel
theorem d_Md_replay_11 : decode b_Md_replay 11 = .ok (.iload_n 3, 1) := by decide +kernel
theorem d_Md_replay_12 : decode b_Md_replay 12 = .ok (.iconst 0, 1) := by decide +kernel
theorem d_Md_replay_13 : decode b_Md_replay 13 = .ok (.iastore, 1) := by decide +kernel
theorem d_Md_replay_14 : decode b_Md_replay 14 = .ok (.iinc 3 1, 3) := by decide +kernel
theorem d_Md_replay_17 : decode b_Md_replay 17 = .ok (.goto (-15), 3) := by decide +kernel
theorem d_Md_replay_20 : decode b_Md_replay 20 = .ok (.iconst 0, 1) := by decide +kernel
theorem d_Md_replay_21 : decode b_Md_replay 21 = .ok (.istore_n 3, 1) := by decide +kernel
theorem d_Md_replay_22 : decode b_Md_replay 22 = .ok (.iload_n 3, 1) := by decide +kernel
theorem d_Md_replay_23 : decode b_Md_replay 23 = .ok (.bipush 31, 2) := by decide +kernel
theorem d_Md_replay_25 : decode b_Md_replay 25 = .ok (.if_icmp .ge 23, 3) := by decide +kernel
theorem d_Md_replay_28 : decode b_Md_replay 28 = .ok (.aload_n 0, 1) := by decide +kernel
theorem d_Md_replay_29 : decode b_Md_replay 29 = .ok (.getfield 83, 3) := by decide +kernel
theorem d_Md_replay_32 : decode b_Md_replay 32 = .ok (.iload_n 3, 1) := by decide +kernel
theorem d_Md_replay_33 : decode b_Md_replay 33 = .ok (.iconst 0, 1) := by decide +kernel
theorem d_Md_replay_34 : decode b_Md_replay 34 = .ok (.bastore, 1) := by decide +kernel
theorem d_Md_replay_35 : decode b_Md_replay 35 = .ok (.aload_n 0, 1) := by decide +kernel
theorem d_Md_replay_36 : decode b_Md_replay 36 = .ok (.getfield 87, 3) := by decide +kernel
theorem d_Md_replay_39 : decode b_Md_replay 39 = .ok (.iload_n 3, 1) := by decide +kernel
theorem d_Md_replay_40 : decode b_Md_replay 40 = .ok (.iconst 0, 1) := by decide +kernel
theorem d_Md_replay_41 : decode b_Md_replay 41 = .ok (.iastore, 1) := by decide +kernel
theorem d_Md_replay_42 : decode b_Md_replay 42 = .ok (.iinc 3 1, 3) := by decide +kernel
theorem d_Md_replay_45 : decode b_Md_replay 45 = .ok (.goto (-23), 3) := by decide +kernel
theorem d_Md_replay_48 : decode b_Md_replay 48 = .ok (.aload_n 0, 1) := by decide +kernel
theorem d_Md_replay_49 : decode b_Md_replay 49 = .ok (.bipush 7, 2) := by decide +kernel
theorem d_Md_replay_51 : decode b_Md_replay 51 = .ok (.putfield 96, 3) := by decide +kernel
theorem d_Md_replay_54 : decode b_Md_replay 54 = .ok (.aload_n 0, 1) := by decide +kernel
theorem d_Md_replay_55 : decode b_Md_replay 55 = .ok (.iconst 0, 1) := by decide +kernel
theorem d_Md_replay_56 : decode b_Md_replay 56 = .ok (.putfield 93, 3) := by decide +kernel
theorem d_Md_replay_59 : decode b_Md_replay 59 = .ok (.aload_n 0, 1) := by decide +kernel
theorem d_Md_replay_60 : decode b_Md_replay 60 = .ok (.iconst 0, 1) := by decide +kernel
theorem d_Md_replay_61 : decode b_Md_replay 61 = .ok (.putfield 90, 3) := by decide +kernel
theorem d_Md_replay_64 : decode b_Md_replay 64 = .ok (.iconst 0, 1) := by decide +kernel
theorem d_Md_replay_65 : decode b_Md_replay 65 = .ok (.istore_n 3, 1) := by decide +kernel
theorem d_Md_replay_66 : decode b_Md_replay 66 = .ok (.iload_n 3, 1) := by decide +kernel
theorem d_Md_replay_67 : decode b_Md_replay 67 = .ok (.bipush 41, 2) := by decide +kernel
theorem d_Md_replay_69 : decode b_Md_replay 69 = .ok (.if_icmp .ge 48, 3) := by decide +kernel
theorem d_Md_replay_72 : decode b_Md_replay 72 = .ok (.aload_n 0, 1) := by decide +kernel
theorem d_Md_replay_73 : decode b_Md_replay 73 = .ok (.getfield 93, 3) := by decide +kernel
theorem d_Md_replay_76 : decode b_Md_replay 76 = .ok (.iload_n 1, 1) := by decide +kernel
theorem d_Md_replay_77 : decode b_Md_replay 77 = .ok (.if_icmp .lt 11, 3) := by decide +kernel
theorem d_Md_replay_80 : decode b_Md_replay 80 = .ok (.aload_n 0, 1) := by decide +kernel
theorem d_Md_replay_81 : decode b_Md_replay 81 = .ok (.getfield 90, 3) := by decide +kernel
theorem d_Md_replay_84 : decode b_Md_replay 84 = .ok (.iload_n 2, 1) := by decide +kernel
theorem d_Md_replay_85 : decode b_Md_replay 85 = .ok (.if_icmp .ge 32, 3) := by decide +kernel
theorem d_Md_replay_88 : decode b_Md_replay 88 = .ok (.aload_n 0, 1) := by decide +kernel
theorem d_Md_replay_89 : decode b_Md_replay 89 = .ok (.aload_n 0, 1) := by decide +kernel
theorem d_Md_replay_90 : decode b_Md_replay 90 = .ok (.getfield 25, 3) := by decide +kernel
theorem d_Md_replay_93 : decode b_Md_replay 93 = .ok (.bipush 9, 2) := by decide +kernel
theorem d_Md_replay_95 : decode b_Md_replay 95 = .ok (.aload_n 0, 1) := by decide +kernel
theorem d_Md_replay_96 : decode b_Md_replay 96 = .ok (.getfield 93, 3) := by decide +kernel
theorem d_Md_replay_99 : decode b_Md_replay 99 = .ok (.imul, 1) := by decide +kernel
theorem d_Md_replay_100 : decode b_Md_replay 100 = .ok (.aload_n 0, 1) := by decide +kernel
theorem d_Md_replay_101 : decode b_Md_replay 101 = .ok (.getfield 90, 3) := by decide +kernel
theorem d_Md_replay_104 : decode b_Md_replay 104 = .ok (.iadd, 1) := by decide +kernel
theorem d_Md_replay_105 : decode b_Md_replay 105 = .ok (.iconst 1, 1) := by decide +kernel
theorem d_Md_replay_106 : decode b_Md_replay 106 = .ok (.iadd, 1) := by decide +kernel
theorem d_Md_replay_107 : decode b_Md_replay 107 = .ok (.iaload, 1) := by decide +kernel
theorem d_Md_replay_108 : decode b_Md_replay 108 = .ok (.invokevirtual 99, 3) := by decide +kernel
theorem d_Md_replay_111 : decode b_Md_replay 111 = .ok (.iinc 3 1, 3) := by decide +kernel
theorem d_Md_replay_114 : decode b_Md_replay 114 = .ok (.goto (-48), 3) := by decide +kernel
theorem d_Md_replay_117 : decode b_Md_replay 117 = .ok (.return_, 1) := by decide +kernel
theorem d_Md_replayOf_0 : decode b_Md_replayOf 0 = .ok (.aload_n 0, 1) := by decide +kernel
theorem d_Md_replayOf_1 : decode b_Md_replayOf 1 = .ok (.aload_n 0, 1) := by decide +kernel
theorem d_Md_replayOf_2 : decode b_Md_replayOf 2 = .ok (.getfield 32, 3) := by decide +kernel
theorem d_Md_replayOf_5 : decode b_Md_replayOf 5 = .ok (.iload_n 1, 1) := by decide +kernel
theorem d_Md_replayOf_6 : decode b_Md_replayOf 6 = .ok (.iaload, 1) := by decide +kernel
theorem d_Md_replayOf_7 : decode b_Md_replayOf 7 = .ok (.aload_n 0, 1) := by decide +kernel
theorem d_Md_replayOf_8 : decode b_Md_replayOf 8 = .ok (.getfield 35, 3) := by decide +kernel
theorem d_Md_replayOf_11 : decode b_Md_replayOf 11 = .ok (.iload_n 1, 1) := by decide +kernel
theorem d_Md_replayOf_12 : decode b_Md_replayOf 12 = .ok (.iaload, 1) := by decide +kernel
theorem d_Md_replayOf_13 : decode b_Md_replayOf 13 = .ok (.invokevirtual 103, 3) := by decide +kernel
theorem d_Md_replayOf_16 : decode b_Md_replayOf 16 = .ok (.return_, 1) := by decide +kernel
theorem d_Md_membersOf_0 : decode b_Md_membersOf 0 = .ok (.aload_n 0, 1) := by decide +kernel
theorem d_Md_membersOf_1 : decode b_Md_membersOf 1 = .ok (.iload_n 1, 1) := by decide +kernel
theorem d_Md_membersOf_2 : decode b_Md_membersOf 2 = .ok (.invokevirtual 107, 3) := by decide +kernel
theorem d_Md_membersOf_5 : decode b_Md_membersOf 5 = .ok (.aload_n 0, 1) := by decide +kernel
theorem d_Md_membersOf_6 : decode b_Md_membersOf 6 = .ok (.getfield 96, 3) := by decide +kernel
theorem d_Md_membersOf_9 : decode b_Md_membersOf 9 = .ok (.ireturn, 1) := by decide +kernel
def wp_Md_node (x1 : Int32) (post : Int32 → Prop) : Prop := ((x1 < (0 : Int32) → (post (0 : Int32))) ∧ (¬ x1 < (0 : Int32) → (((6 : Int32) ≤ x1 → (post (0 : Int32))) ∧ (¬ (6 : Int32) ≤ x1 → (post (1 : Int32))))))
abbrev rm_Md_node : Room := { frames := 0, cells := 0, slots := 0, locals := 0 }
def wp_Md_cell (x1 : Int32) (x2 : Int32) (x3 : Int32) (post : Int32 → Prop) : Prop := (wp_Md_node x1 (fun (r1 : Int32) => ((r1 = (0 : Int32) → (post (0 : Int32))) ∧ (¬ r1 = (0 : Int32) → ((x2 < (0 : Int32) → (post (0 : Int32))) ∧ (¬ x2 < (0 : Int32) → (((4 : Int32) < x2 → (post (0 : Int32))) ∧ (¬ (4 : Int32) < x2 → ((x3 < (1 : Int32) → (post (0 : Int32))) ∧ (¬ x3 < (1 : Int32) → (((8 : Int32) < x3 → (post (0 : Int32))) ∧ (¬ (8 : Int32) < x3 → (post (1 : Int32))))))))))))))
abbrev rm_Md_cell : Room := { frames := 1, cells := 0, slots := 0, locals := 20 }
def wp_Md_count_L4 (K4 : Int32 → Int32 → Int32 → Prop) : Nat → Int32 → Int32 → Int32 → Prop
  | 0, _, _, _ => False
  | n4 + 1, y0, y1, y2 => (((6 : Int32) ≤ y2 → K4 y0 y1 y2) ∧ (¬ (6 : Int32) ≤ y2 → (∀ v2 : Int32, v2 = (y1 + ((y0 >>> (y2 &&& 31)) &&& (1 : Int32))) → (∀ v3 : Int32, v3 = (y2 + (1 : Int32)) → wp_Md_count_L4 K4 n4 y0 v2 v3))))
def wp_Md_count (x1 : Int32) (post : Int32 → Prop) : Prop := (∃ n4 : Nat, wp_Md_count_L4 (fun (y0 : Int32) (y1 : Int32) (y2 : Int32)  => (post y1)) n4 x1 (0 : Int32) (0 : Int32))
abbrev rm_Md_count : Room := { frames := 0, cells := 0, slots := 0, locals := 0 }
def wp_Md_execute (z1 : MmdT) (x1 : Int32) (post : MmdT → Prop) : Prop := (∀ w1 : MmdT, w1 = mmd_s_atE z1 ((mmd_atE z1) + (1 : Int32)) → ((x1 < (1 : Int32) → (post w1)) ∧ (¬ x1 < (1 : Int32) → (vp_in x1 31 ∧ ((((mmd_done w1) (x1).toNatClampNeg) = (0 : Int32) → (vp_in x1 31 ∧ (∀ v4 : Int32, v4 = ((mmd_keyOf w1) (x1).toNatClampNeg) → (vp_in x1 31 ∧ (∀ v5 : Int32, v5 = ((mmd_numberOf w1) (x1).toNatClampNeg) → (vp_in v4 4 ∧ (∀ v6 : Int32, v6 = ((mmd_values w1) (v4).toNatClampNeg) → (vp_in x1 31 ∧ (∀ w7 : MmdT, w7 = mmd_s_done w1 (upd (mmd_done w1) (x1).toNatClampNeg (vp_nar .boolean (1 : Int32))) → (vp_in x1 31 ∧ ((((mmd_kindOf w7) (x1).toNatClampNeg) = (3 : Int32) → (((mmd_atC w7) = (4 : Int32) → (vp_in x1 31 ∧ (∀ w46 : MmdT, w46 = mmd_s_answers w7 (upd (mmd_answers w7) (x1).toNatClampNeg (-1 : Int32)) → (((mmd_atC w46) = (4 : Int32) → (∀ w58 : MmdT, w58 = mmd_s_members w46 (mmd_members w46) → (((mmd_atC w58) = (4 : Int32) → (∀ w64 : MmdT, w64 = mmd_s_atE w58 (mmd_atE w58) → (((mmd_atC w64) = (4 : Int32) → (∀ w67 : MmdT, w67 = mmd_s_atC w64 (4 : Int32) → (post w67))) ∧ (¬ (mmd_atC w64) = (4 : Int32) → (∀ w66 : MmdT, w66 = mmd_s_atC w64 ((mmd_atC w64) + (1 : Int32)) → (post w66)))))) ∧ (¬ (mmd_atC w58) = (4 : Int32) → (∀ w60 : MmdT, w60 = mmd_s_atE w58 (0 : Int32) → (((mmd_atC w60) = (4 : Int32) → (∀ w63 : MmdT, w63 = mmd_s_atC w60 (4 : Int32) → (post w63))) ∧ (¬ (mmd_atC w60) = (4 : Int32) → (∀ w62 : MmdT, w62 = mmd_s_atC w60 ((mmd_atC w60) + (1 : Int32)) → (post w62))))))))) ∧ (¬ (mmd_atC w46) = (4 : Int32) → (∀ w48 : MmdT, w48 = mmd_s_members w46 v5 → (((mmd_atC w48) = (4 : Int32) → (∀ w54 : MmdT, w54 = mmd_s_atE w48 (mmd_atE w48) → (((mmd_atC w54) = (4 : Int32) → (∀ w57 : MmdT, w57 = mmd_s_atC w54 (4 : Int32) → (post w57))) ∧ (¬ (mmd_atC w54) = (4 : Int32) → (∀ w56 : MmdT, w56 = mmd_s_atC w54 ((mmd_atC w54) + (1 : Int32)) → (post w56)))))) ∧ (¬ (mmd_atC w48) = (4 : Int32) → (∀ w50 : MmdT, w50 = mmd_s_atE w48 (0 : Int32) → (((mmd_atC w50) = (4 : Int32) → (∀ w53 : MmdT, w53 = mmd_s_atC w50 (4 : Int32) → (post w53))) ∧ (¬ (mmd_atC w50) = (4 : Int32) → (∀ w52 : MmdT, w52 = mmd_s_atC w50 ((mmd_atC w50) + (1 : Int32)) → (post w52))))))))))))) ∧ (¬ (mmd_atC w7) = (4 : Int32) → (vp_in x1 31 ∧ (∀ w24 : MmdT, w24 = mmd_s_answers w7 (upd (mmd_answers w7) (x1).toNatClampNeg ((mmd_atC w7) + (1 : Int32))) → (((mmd_atC w24) = (4 : Int32) → (∀ w36 : MmdT, w36 = mmd_s_members w24 (mmd_members w24) → (((mmd_atC w36) = (4 : Int32) → (∀ w42 : MmdT, w42 = mmd_s_atE w36 (mmd_atE w36) → (((mmd_atC w42) = (4 : Int32) → (∀ w45 : MmdT, w45 = mmd_s_atC w42 (4 : Int32) → (post w45))) ∧ (¬ (mmd_atC w42) = (4 : Int32) → (∀ w44 : MmdT, w44 = mmd_s_atC w42 ((mmd_atC w42) + (1 : Int32)) → (post w44)))))) ∧ (¬ (mmd_atC w36) = (4 : Int32) → (∀ w38 : MmdT, w38 = mmd_s_atE w36 (0 : Int32) → (((mmd_atC w38) = (4 : Int32) → (∀ w41 : MmdT, w41 = mmd_s_atC w38 (4 : Int32) → (post w41))) ∧ (¬ (mmd_atC w38) = (4 : Int32) → (∀ w40 : MmdT, w40 = mmd_s_atC w38 ((mmd_atC w38) + (1 : Int32)) → (post w40))))))))) ∧ (¬ (mmd_atC w24) = (4 : Int32) → (∀ w26 : MmdT, w26 = mmd_s_members w24 v5 → (((mmd_atC w26) = (4 : Int32) → (∀ w32 : MmdT, w32 = mmd_s_atE w26 (mmd_atE w26) → (((mmd_atC w32) = (4 : Int32) → (∀ w35 : MmdT, w35 = mmd_s_atC w32 (4 : Int32) → (post w35))) ∧ (¬ (mmd_atC w32) = (4 : Int32) → (∀ w34 : MmdT, w34 = mmd_s_atC w32 ((mmd_atC w32) + (1 : Int32)) → (post w34)))))) ∧ (¬ (mmd_atC w26) = (4 : Int32) → (∀ w28 : MmdT, w28 = mmd_s_atE w26 (0 : Int32) → (((mmd_atC w28) = (4 : Int32) → (∀ w31 : MmdT, w31 = mmd_s_atC w28 (4 : Int32) → (post w31))) ∧ (¬ (mmd_atC w28) = (4 : Int32) → (∀ w30 : MmdT, w30 = mmd_s_atC w28 ((mmd_atC w28) + (1 : Int32)) → (post w30))))))))))))))) ∧ (¬ ((mmd_kindOf w7) (x1).toNatClampNeg) = (3 : Int32) → (vp_in x1 31 ∧ ((((mmd_kindOf w7) (x1).toNatClampNeg) = (0 : Int32) → (vp_in v4 4 ∧ (∀ w19 : MmdT, w19 = mmd_s_values w7 (upd (mmd_values w7) (v4).toNatClampNeg v6) → (vp_in x1 31 ∧ ((((mmd_kindOf w19) (x1).toNatClampNeg) = (2 : Int32) → (vp_in v4 4 ∧ (vp_in x1 31 ∧ (∀ w22 : MmdT, w22 = mmd_s_answers w19 (upd (mmd_answers w19) (x1).toNatClampNeg ((mmd_values w19) (v4).toNatClampNeg)) → (post w22))))) ∧ (¬ ((mmd_kindOf w19) (x1).toNatClampNeg) = (2 : Int32) → (vp_in x1 31 ∧ (∀ w21 : MmdT, w21 = mmd_s_answers w19 (upd (mmd_answers w19) (x1).toNatClampNeg v6) → (post w21))))))))) ∧ (¬ ((mmd_kindOf w7) (x1).toNatClampNeg) = (0 : Int32) → (vp_in x1 31 ∧ ((((mmd_kindOf w7) (x1).toNatClampNeg) = (1 : Int32) → (vp_in v4 4 ∧ (∀ w15 : MmdT, w15 = mmd_s_values w7 (upd (mmd_values w7) (v4).toNatClampNeg v5) → (vp_in x1 31 ∧ ((((mmd_kindOf w15) (x1).toNatClampNeg) = (2 : Int32) → (vp_in v4 4 ∧ (vp_in x1 31 ∧ (∀ w18 : MmdT, w18 = mmd_s_answers w15 (upd (mmd_answers w15) (x1).toNatClampNeg ((mmd_values w15) (v4).toNatClampNeg)) → (post w18))))) ∧ (¬ ((mmd_kindOf w15) (x1).toNatClampNeg) = (2 : Int32) → (vp_in x1 31 ∧ (∀ w17 : MmdT, w17 = mmd_s_answers w15 (upd (mmd_answers w15) (x1).toNatClampNeg v6) → (post w17))))))))) ∧ (¬ ((mmd_kindOf w7) (x1).toNatClampNeg) = (1 : Int32) → (vp_in v4 4 ∧ (∀ w11 : MmdT, w11 = mmd_s_values w7 (upd (mmd_values w7) (v4).toNatClampNeg (v6 + v5)) → (vp_in x1 31 ∧ ((((mmd_kindOf w11) (x1).toNatClampNeg) = (2 : Int32) → (vp_in v4 4 ∧ (vp_in x1 31 ∧ (∀ w14 : MmdT, w14 = mmd_s_answers w11 (upd (mmd_answers w11) (x1).toNatClampNeg ((mmd_values w11) (v4).toNatClampNeg)) → (post w14))))) ∧ (¬ ((mmd_kindOf w11) (x1).toNatClampNeg) = (2 : Int32) → (vp_in x1 31 ∧ (∀ w13 : MmdT, w13 = mmd_s_answers w11 (upd (mmd_answers w11) (x1).toNatClampNeg v6) → (post w13)))))))))))))))))))))))))) ∧ (¬ ((mmd_done w1) (x1).toNatClampNeg) = (0 : Int32) → (post w1)))))))
abbrev rm_Md_execute : Room := { frames := 0, cells := 0, slots := 0, locals := 0 }
def wp_Md_replay_L2 (K2 : Int32 → Int32 → Int32 → MmdT → Prop) : Nat → Int32 → Int32 → Int32 → MmdT → Prop
  | 0, _, _, _, _ => False
  | n2 + 1, y1, y2, y3, z1 => (((4 : Int32) ≤ y3 → K2 y1 y2 y3 z1) ∧ (¬ (4 : Int32) ≤ y3 → (vp_in y3 4 ∧ (∀ w2 : MmdT, w2 = mmd_s_values z1 (upd (mmd_values z1) (y3).toNatClampNeg (0 : Int32)) → (∀ v3 : Int32, v3 = (y3 + (1 : Int32)) → wp_Md_replay_L2 K2 n2 y1 y2 v3 w2)))))
def wp_Md_replay_L22 (K22 : Int32 → Int32 → Int32 → MmdT → Prop) : Nat → Int32 → Int32 → Int32 → MmdT → Prop
  | 0, _, _, _, _ => False
  | n22 + 1, y1, y2, y3, z1 => (((31 : Int32) ≤ y3 → K22 y1 y2 y3 z1) ∧ (¬ (31 : Int32) ≤ y3 → (vp_in y3 31 ∧ (∀ w5 : MmdT, w5 = mmd_s_done z1 (upd (mmd_done z1) (y3).toNatClampNeg (vp_nar .boolean (0 : Int32))) → (vp_in y3 31 ∧ (∀ w6 : MmdT, w6 = mmd_s_answers w5 (upd (mmd_answers w5) (y3).toNatClampNeg (0 : Int32)) → (∀ v7 : Int32, v7 = (y3 + (1 : Int32)) → wp_Md_replay_L22 K22 n22 y1 y2 v7 w6)))))))
def wp_Md_replay_L66 (K66 : Int32 → Int32 → Int32 → MmdT → Prop) : Nat → Int32 → Int32 → Int32 → MmdT → Prop
  | 0, _, _, _, _ => False
  | n66 + 1, y1, y2, y3, z1 => (((41 : Int32) ≤ y3 → K66 y1 y2 y3 z1) ∧ (¬ (41 : Int32) ≤ y3 → (((mmd_atC z1) < y1 → (vp_in ((((9 : Int32) * (mmd_atC z1)) + (mmd_atE z1)) + (1 : Int32)) 45 ∧ (wp_Md_execute z1 ((mmd_decided z1) (((((9 : Int32) * (mmd_atC z1)) + (mmd_atE z1)) + (1 : Int32))).toNatClampNeg) (fun (u14 : MmdT) => (∀ v15 : Int32, v15 = (y3 + (1 : Int32)) → wp_Md_replay_L66 K66 n66 y1 y2 v15 u14))))) ∧ (¬ (mmd_atC z1) < y1 → ((y2 ≤ (mmd_atE z1) → K66 y1 y2 y3 z1) ∧ (¬ y2 ≤ (mmd_atE z1) → (vp_in ((((9 : Int32) * (mmd_atC z1)) + (mmd_atE z1)) + (1 : Int32)) 45 ∧ (wp_Md_execute z1 ((mmd_decided z1) (((((9 : Int32) * (mmd_atC z1)) + (mmd_atE z1)) + (1 : Int32))).toNatClampNeg) (fun (u18 : MmdT) => (∀ v19 : Int32, v19 = (y3 + (1 : Int32)) → wp_Md_replay_L66 K66 n66 y1 y2 v19 u18))))))))))
def wp_Md_replay (z1 : MmdT) (x1 : Int32) (x2 : Int32) (post : MmdT → Prop) : Prop := (∃ n2 : Nat, wp_Md_replay_L2 (fun (y1 : Int32) (y2 : Int32) (y3 : Int32) (z1 : MmdT) => (∃ n22 : Nat, wp_Md_replay_L22 (fun (y1 : Int32) (y2 : Int32) (y3 : Int32) (z1 : MmdT) => (∀ w8 : MmdT, w8 = mmd_s_members z1 (7 : Int32) → (∀ w9 : MmdT, w9 = mmd_s_atC w8 (0 : Int32) → (∀ w10 : MmdT, w10 = mmd_s_atE w9 (0 : Int32) → (∃ n66 : Nat, wp_Md_replay_L66 (fun (y1 : Int32) (y2 : Int32) (y3 : Int32) (z1 : MmdT) => (post z1)) n66 y1 y2 (0 : Int32) w10))))) n22 y1 y2 (0 : Int32) z1)) n2 x1 x2 (0 : Int32) z1)
abbrev rm_Md_replay : Room := { frames := 1, cells := 0, slots := 0, locals := 24 }
def wp_Md_replayOf (z1 : MmdT) (x1 : Int32) (post : MmdT → Prop) : Prop := (vp_in x1 6 ∧ (vp_in x1 6 ∧ (wp_Md_replay z1 ((mmd_configuration z1) (x1).toNatClampNeg) ((mmd_executed z1) (x1).toNatClampNeg) (fun (u2 : MmdT) => (post u2)))))
abbrev rm_Md_replayOf : Room := { frames := 2, cells := 0, slots := 0, locals := 47 }
def wp_Md_membersOf (z1 : MmdT) (x1 : Int32) (post : Int32 → MmdT → Prop) : Prop := (wp_Md_replayOf z1 x1 (fun (u2 : MmdT) => (post (mmd_members u2) u2)))
abbrev rm_Md_membersOf : Room := { frames := 3, cells := 0, slots := 0, locals := 68 }
set_option maxHeartbeats 4000000 in
set_option maxRecDepth 100000 in
theorem c_Md_node (l : Launch) (D : va_G) (cI cN cZ : ClassId) (x1 : Int32) (post : Int32 → Prop) (hw : wp_Md_node x1 post) : km_I l y_Md_node (.code y_Md_node b_Md_node 1 (some .boolean) :: kmW) rm_Md_node D kmC (kmT cI cN cZ) kmF kmM [.int x1] ([] : va_W) (fun (r : Int32) (u : Unit) => post r) (fun (u : Unit) => ([] : va_W)) 0 0 := by
  refine km_startI (cc := b_Md_node) (maxL := 1) (ret := (some .boolean)) (by decide) rfl (Nat.le_of_ble_eq_true rfl) ?_
  intro p e s m below meth c A ls hE hA hK hP hD hS hl
  obtain ⟨hx, hb, hr, hml, hown, hts0, hlk, hnm⟩ := id hE
  have hts : ∀ w ∈ kmW, w.before ([.int x1] : List Value).toArray s = true := fun w h => hts0 w (List.mem_cons_of_mem _ h)
  have hP : va_P D kmC ([] : va_W) s.heap := hP
  have hl : lv_has ls 1 [(0, .int x1)] := hl
  unfold wp_Md_node at hw
  refine lv_iload_n hx hb d_Md_node_0 rfl (lv_at hl 0 rfl) ?_
  refine lv_if_lt (tgt := 14) hx hb d_Md_node_1 (by first | rfl | decide) (fun h1 => ?_) (fun h1 => ?_)
  · have hw := hw.1 h1
    refine lv_iconst (v := (0 : Int32)) hx hb d_Md_node_14 (by decide) ?_
    exact W.zret (ty := .boolean) (v := (0 : Int32)) hx hb hr (by decide) (fun t ht hW => ⟨⟨(0 : Int32), (), rfl, hw, by rw [ht]; exact hP, hD⟩, hS.F ht⟩) hS.2.2 d_Md_node_15
  · have hw := hw.2 h1
    refine lv_iload_n hx hb d_Md_node_4 rfl (lv_at hl 0 rfl) ?_
    refine lv_bipush (v := (6 : Int32)) hx hb d_Md_node_5 (by decide) ?_
    refine lv_icmp_ge (tgt := 14) hx hb d_Md_node_7 (by first | rfl | decide) (fun h2 => ?_) (fun h2 => ?_)
    · have hw := hw.1 h2
      refine lv_iconst (v := (0 : Int32)) hx hb d_Md_node_14 (by decide) ?_
      exact W.zret (ty := .boolean) (v := (0 : Int32)) hx hb hr (by decide) (fun t ht hW => ⟨⟨(0 : Int32), (), rfl, hw, by rw [ht]; exact hP, hD⟩, hS.F ht⟩) hS.2.2 d_Md_node_15
    · have hw := hw.2 h2
      refine lv_iconst (v := (1 : Int32)) hx hb d_Md_node_10 (by decide) ?_
      refine lv_goto (tgt := 15) hx hb d_Md_node_11 (by first | rfl | decide) ?_
      exact W.zret (ty := .boolean) (v := (1 : Int32)) hx hb hr (by decide) (fun t ht hW => ⟨⟨(1 : Int32), (), rfl, hw, by rw [ht]; exact hP, hD⟩, hS.F ht⟩) hS.2.2 d_Md_node_15
set_option maxHeartbeats 4000000 in
set_option maxRecDepth 100000 in
theorem c_Md_cell (l : Launch) (D : va_G) (cI cN cZ : ClassId) (x1 : Int32) (x2 : Int32) (x3 : Int32) (post : Int32 → Prop) (hw : wp_Md_cell x1 x2 x3 post) : km_I l y_Md_cell (.code y_Md_cell b_Md_cell 3 (some .boolean) :: kmW) rm_Md_cell D kmC (kmT cI cN cZ) kmF kmM [.int x1, .int x2, .int x3] ([] : va_W) (fun (r : Int32) (u : Unit) => post r) (fun (u : Unit) => ([] : va_W)) 0 0 := by
  refine km_startI (cc := b_Md_cell) (maxL := 3) (ret := (some .boolean)) (by decide) rfl (Nat.le_of_ble_eq_true rfl) ?_
  intro p e s m below meth c A ls hE hA hK hP hD hS hl
  obtain ⟨hx, hb, hr, hml, hown, hts0, hlk, hnm⟩ := id hE
  have hts : ∀ w ∈ kmW, w.before ([.int x1, .int x2, .int x3] : List Value).toArray s = true := fun w h => hts0 w (List.mem_cons_of_mem _ h)
  have hP : va_P D kmC ([] : va_W) s.heap := hP
  have hl : lv_has ls 3 [(0, .int x1), (1, .int x2), (2, .int x3)] := hl
  unfold wp_Md_cell at hw
  refine lv_iload_n hx hb d_Md_cell_0 rfl (lv_at hl 0 rfl) ?_
  refine km_ci (wr := []) (km_rS (n := 1) hE kmG (c_Md_node l D cI cN cZ x1 _ hw) mw_535 mw_533 mw_534 mw_8 (by decide) ⟨rfl, rfl, ⟨by decide, by decide⟩, by decide, by decide⟩ hK (km_cut hP [] rfl) (hD.sub [] (by decide) rfl) rfl hl.1 rfl (Nat.le_of_ble_eq_true rfl) d_Md_cell_1) hP hD hS hA [] [] rfl rfl (by decide) (by decide) (fun r1 _ H locs hw hP hD hS => ?_)
  have hP := hP.sub (ws' := ([] : va_W)) [] rfl
  have hD := hD.sub (ws' := ([] : va_W)) [] (by decide) rfl
  refine lv_if_eq (tgt := 31) hx hb d_Md_cell_4 (by first | rfl | decide) (fun h2 => ?_) (fun h2 => ?_)
  · have hw := hw.1 h2
    refine lv_iconst (v := (0 : Int32)) hx hb d_Md_cell_31 (by decide) ?_
    exact W.zret (ty := .boolean) (v := (0 : Int32)) hx hb hr (by decide) (fun t ht hW => ⟨⟨(0 : Int32), (), rfl, hw, by rw [ht]; exact hP, hD⟩, hS.F ht⟩) hS.2.2 d_Md_cell_32
  · have hw := hw.2 h2
    refine lv_iload_n hx hb d_Md_cell_7 rfl (lv_at hl 1 rfl) ?_
    refine lv_if_lt (tgt := 31) hx hb d_Md_cell_8 (by first | rfl | decide) (fun h3 => ?_) (fun h3 => ?_)
    · have hw := hw.1 h3
      refine lv_iconst (v := (0 : Int32)) hx hb d_Md_cell_31 (by decide) ?_
      exact W.zret (ty := .boolean) (v := (0 : Int32)) hx hb hr (by decide) (fun t ht hW => ⟨⟨(0 : Int32), (), rfl, hw, by rw [ht]; exact hP, hD⟩, hS.F ht⟩) hS.2.2 d_Md_cell_32
    · have hw := hw.2 h3
      refine lv_iload_n hx hb d_Md_cell_11 rfl (lv_at hl 1 rfl) ?_
      refine lv_iconst (v := (4 : Int32)) hx hb d_Md_cell_12 (by decide) ?_
      refine lv_icmp_gt (tgt := 31) hx hb d_Md_cell_13 (by first | rfl | decide) (fun h4 => ?_) (fun h4 => ?_)
      · have hw := hw.1 h4
        refine lv_iconst (v := (0 : Int32)) hx hb d_Md_cell_31 (by decide) ?_
        exact W.zret (ty := .boolean) (v := (0 : Int32)) hx hb hr (by decide) (fun t ht hW => ⟨⟨(0 : Int32), (), rfl, hw, by rw [ht]; exact hP, hD⟩, hS.F ht⟩) hS.2.2 d_Md_cell_32
      · have hw := hw.2 h4
        refine lv_iload_n hx hb d_Md_cell_16 rfl (lv_at hl 2 rfl) ?_
        refine lv_iconst (v := (1 : Int32)) hx hb d_Md_cell_17 (by decide) ?_
        refine lv_icmp_lt (tgt := 31) hx hb d_Md_cell_18 (by first | rfl | decide) (fun h5 => ?_) (fun h5 => ?_)
        · have hw := hw.1 h5
          refine lv_iconst (v := (0 : Int32)) hx hb d_Md_cell_31 (by decide) ?_
          exact W.zret (ty := .boolean) (v := (0 : Int32)) hx hb hr (by decide) (fun t ht hW => ⟨⟨(0 : Int32), (), rfl, hw, by rw [ht]; exact hP, hD⟩, hS.F ht⟩) hS.2.2 d_Md_cell_32
        · have hw := hw.2 h5
          refine lv_iload_n hx hb d_Md_cell_21 rfl (lv_at hl 2 rfl) ?_
          refine lv_bipush (v := (8 : Int32)) hx hb d_Md_cell_22 (by decide) ?_
          refine lv_icmp_gt (tgt := 31) hx hb d_Md_cell_24 (by first | rfl | decide) (fun h6 => ?_) (fun h6 => ?_)
          · have hw := hw.1 h6
            refine lv_iconst (v := (0 : Int32)) hx hb d_Md_cell_31 (by decide) ?_
            exact W.zret (ty := .boolean) (v := (0 : Int32)) hx hb hr (by decide) (fun t ht hW => ⟨⟨(0 : Int32), (), rfl, hw, by rw [ht]; exact hP, hD⟩, hS.F ht⟩) hS.2.2 d_Md_cell_32
          · have hw := hw.2 h6
            refine lv_iconst (v := (1 : Int32)) hx hb d_Md_cell_27 (by decide) ?_
            refine lv_goto (tgt := 32) hx hb d_Md_cell_28 (by first | rfl | decide) ?_
            exact W.zret (ty := .boolean) (v := (1 : Int32)) hx hb hr (by decide) (fun t ht hW => ⟨⟨(1 : Int32), (), rfl, hw, by rw [ht]; exact hP, hD⟩, hS.F ht⟩) hS.2.2 d_Md_cell_32
set_option maxHeartbeats 4000000 in
set_option maxRecDepth 100000 in
theorem c_Md_count (l : Launch) (D : va_G) (cI cN cZ : ClassId) (x1 : Int32) (post : Int32 → Prop) (hw : wp_Md_count x1 post) : km_I l y_Md_count (.code y_Md_count b_Md_count 3 (some .int) :: kmW) rm_Md_count D kmC (kmT cI cN cZ) kmF kmM [.int x1] ([] : va_W) (fun (r : Int32) (u : Unit) => post r) (fun (u : Unit) => ([] : va_W)) 0 0 := by
  refine km_startI (cc := b_Md_count) (maxL := 3) (ret := (some .int)) (by decide) rfl (Nat.le_of_ble_eq_true rfl) ?_
  intro p e s m below meth c A ls hE hA hK hP hD hS hl
  obtain ⟨hx, hb, hr, hml, hown, hts0, hlk, hnm⟩ := id hE
  have hts : ∀ w ∈ kmW, w.before ([.int x1] : List Value).toArray s = true := fun w h => hts0 w (List.mem_cons_of_mem _ h)
  have hP : va_P D kmC ([] : va_W) s.heap := hP
  have hl : lv_has ls 3 [(0, .int x1)] := hl
  unfold wp_Md_count at hw
  refine lv_iconst (v := (0 : Int32)) hx hb d_Md_count_0 (by decide) ?_
  refine lv_istore_n (lv' := [(1, .int (0 : Int32)), (0, .int x1)]) hx hb d_Md_count_1 rfl hl (by decide) rfl (fun ls hl => ?_)
  refine lv_iconst (v := (0 : Int32)) hx hb d_Md_count_2 (by decide) ?_
  refine lv_istore_n (lv' := [(2, .int (0 : Int32)), (1, .int (0 : Int32)), (0, .int x1)]) hx hb d_Md_count_3 rfl hl (by decide) rfl (fun ls hl => ?_)
  have key4 : ∀ (K4 : Int32 → Int32 → Int32 → Prop) (hk4 : ∀ (y0 : Int32) (y1 : Int32) (y2 : Int32)  (ls : Array Slot) (H : Heap) (locs : List Loc), K4 y0 y1 y2 → lv_has ls 3 [(0, .int y0), (1, .int y1), (2, .int y2)] → va_P D kmC ([] : va_W) H → va_D A ([] : va_W) → va_S A s.heap H locs → W p l e rm_Md_count s m ([.int x1] : List Value).toArray below meth c H locs 0 0 (MQ below (va_Qi (fun (r : Int32) (u : Unit) => post r) (km_B D kmC A (fun (u : Unit) => ([] : va_W))) A) ([.int x1] : List Value).toArray s 0 0 A) (F0 m 24 ls [])) (n4 : Nat), ∀ (y0 : Int32) (y1 : Int32) (y2 : Int32)  (ls : Array Slot) (H : Heap) (locs : List Loc), wp_Md_count_L4 K4 n4 y0 y1 y2 → lv_has ls 3 [(0, .int y0), (1, .int y1), (2, .int y2)] → va_P D kmC ([] : va_W) H → va_D A ([] : va_W) → va_S A s.heap H locs → W p l e rm_Md_count s m ([.int x1] : List Value).toArray below meth c H locs 0 0 (MQ below (va_Qi (fun (r : Int32) (u : Unit) => post r) (km_B D kmC A (fun (u : Unit) => ([] : va_W))) A) ([.int x1] : List Value).toArray s 0 0 A) (F0 m 4 ls []) := by
    intro K4 hk4 n4
    induction n4 with
    | zero => intro y0 y1 y2 ls H locs hw; exact hw.elim
    | succ n4 ih4 =>
      intro y0 y1 y2 ls H locs hw hl hP hD hS
      refine lv_iload_n hx hb d_Md_count_4 rfl (lv_at hl 2 rfl) ?_
      refine lv_bipush (v := (6 : Int32)) hx hb d_Md_count_5 (by decide) ?_
      refine lv_icmp_ge (tgt := 24) hx hb d_Md_count_7 (by first | rfl | decide) (fun h1 => ?_) (fun h1 => ?_)
      · have hw := hw.1 h1
        exact hk4 y0 y1 y2 ls H locs hw (lv_sub hl [0, 1, 2] rfl) hP hD hS
      · have hw := hw.2 h1
        refine lv_iload_n hx hb d_Md_count_10 rfl (lv_at hl 1 rfl) ?_
        refine lv_iload_n hx hb d_Md_count_11 rfl (lv_at hl 0 rfl) ?_
        refine lv_iload_n hx hb d_Md_count_12 rfl (lv_at hl 2 rfl) ?_
        refine lv_ishr hx hb d_Md_count_13 ?_
        refine lv_iconst (v := (1 : Int32)) hx hb d_Md_count_14 (by decide) ?_
        refine lv_iand hx hb d_Md_count_15 ?_
        refine lv_iadd hx hb d_Md_count_16 ?_
        refine lv_topi (fun v2 ev2 => ?_)
        have hw := hw v2 ev2
        refine lv_istore_n (lv' := [(1, .int v2), (0, .int y0), (2, .int y2)]) hx hb d_Md_count_17 rfl hl (by decide) rfl (fun ls hl => ?_)
        obtain ⟨v3, ev3⟩ : ∃ z : Int32, z = (y2 + (1 : Int32)) := ⟨_, rfl⟩
        have hw := hw v3 ev3
        refine lv_iinc (v := v3) (lv' := [(2, .int v3), (1, .int v2), (0, .int y0)]) hx hb d_Md_count_18 hl (k := 2) rfl ev3.symm (by decide) rfl (fun ls hl => ?_)
        refine lv_goto (tgt := 4) hx hb d_Md_count_21 (by first | rfl | decide) ?_
        exact ih4 y0 v2 v3 ls H locs hw (lv_sub hl [2, 1, 0] rfl) hP hD hS
  obtain ⟨n4, hw⟩ := hw
  refine key4 _ (fun y0 y1 y2 ls H locs hw hl hP hD hS => ?_) n4 x1 (0 : Int32) (0 : Int32) ls s.heap [] hw (lv_sub hl [2, 1, 0] rfl) hP hD hS
  refine lv_iload_n hx hb d_Md_count_24 rfl (lv_at hl 1 rfl) ?_
  exact W.iret (v := y1) hx hb hr (fun t ht hW => ⟨⟨y1, (), rfl, hw, by rw [ht]; exact hP, hD⟩, hS.F ht⟩) hS.2.2 d_Md_count_25
set_option maxHeartbeats 4000000 in
set_option maxRecDepth 100000 in
theorem c_Md_execute (l : Launch) (D : va_G) (cI cN cZ : ClassId) (a1 : Nat → Nat) (z1 : MmdT) (x1 : Int32) (post : MmdT → Prop) (hw : wp_Md_execute z1 x1 post) : km_V l y_Md_execute (.code y_Md_execute b_Md_execute 5 none :: kmW) rm_Md_execute D kmC (kmT cI cN cZ) kmF kmM [.ref (a1 0), .int x1] (mmdW cI cN cZ a1 z1) (fun (u : MmdT) => post u) (fun (u : MmdT) => (mmdW cI cN cZ a1 u)) 0 0 := by
  refine km_startV (cc := b_Md_execute) (maxL := 5) (ret := none) (by decide) rfl (Nat.le_of_ble_eq_true rfl) ?_
  intro p e s m below meth c A ls hE hA hK hP hD hS hl
  obtain ⟨hx, hb, hr, hml, hown, hts0, hlk, hnm⟩ := id hE
  have hts : ∀ w ∈ kmW, w.before ([.ref (a1 0), .int x1] : List Value).toArray s = true := fun w h => hts0 w (List.mem_cons_of_mem _ h)
  have hP : va_P D kmC (mmdW cI cN cZ a1 z1) s.heap := hP
  have hl : lv_has ls 5 [(0, .ref (a1 0)), (1, .int x1)] := hl
  unfold wp_Md_execute at hw
  refine lv_aload_n hx hb d_Md_execute_0 rfl (lv_at hl 0 rfl) ?_
  refine lv_dup hx hb d_Md_execute_1 rfl ?_
  refine va_get (D := D) (ci := 6) (v := .int (mmd_atE z1)) (C := R_Md) (T := F_Md) (N := 31) hx hb hts iw_Md hown hK.1 hP 0 rfl rfl 30 (by decide) (hts _ mw_457) (fun _ h => h) rfl d_Md_execute_2 ?_
  refine lv_iconst (v := (1 : Int32)) hx hb d_Md_execute_5 (by decide) ?_
  refine lv_iadd hx hb d_Md_execute_6 ?_
  refine va_put (D := D) (ci := 6) (v := .int ((mmd_atE z1) + (1 : Int32))) (ty := .int) (C := R_Md) (T := F_Md) (N := 31) hx hb hts iw_Md t_Md t_Md_ok n_Md hown hK.1 hP hD hS 0 rfl rfl 30 (by decide) (hts _ mw_457) (fun _ h => h) rfl (t_Md_ok 30 (by decide)) rfl rfl (Nat.le_of_ble_eq_true rfl) d_Md_execute_7 (fun H locs hP hD hS => ?_)
  have hP := (congrArg (fun w => va_P D kmC w H) (sw_mmd_s_atE cI cN cZ a1 z1 ((mmd_atE z1) + (1 : Int32)))).mp hP
  have hD := (congrArg (va_D A) (sw_mmd_s_atE cI cN cZ a1 z1 ((mmd_atE z1) + (1 : Int32)))).mp hD
  obtain ⟨w1, ew1⟩ : ∃ z : MmdT, z = mmd_s_atE z1 ((mmd_atE z1) + (1 : Int32)) := ⟨_, rfl⟩
  rw [← ew1] at hP hD
  have hw := hw w1 ew1
  refine lv_iload_n hx hb d_Md_execute_10 rfl (lv_at hl 1 rfl) ?_
  refine lv_iconst (v := (1 : Int32)) hx hb d_Md_execute_11 (by decide) ?_
  refine lv_icmp_lt (tgt := 24) hx hb d_Md_execute_12 (by first | rfl | decide) (fun h2 => ?_) (fun h2 => ?_)
  · have hw := hw.1 h2
    exact W.vret hx hb hr (fun t ht hW => ⟨⟨w1, rfl, hw, by rw [ht]; exact hP, hD⟩, hS.F ht⟩) hS.2.2 d_Md_execute_24
  · have hw := hw.2 h2
    refine lv_aload_n hx hb d_Md_execute_15 rfl (lv_at hl 0 rfl) ?_
    refine va_get (D := D) (ci := 6) (v := .ref (a1 24)) (C := R_Md) (T := F_Md) (N := 31) hx hb hts iw_Md hown hK.1 hP 0 rfl rfl 26 (by decide) (hts _ mw_453) (fun _ h => h) rfl d_Md_execute_16 ?_
    refine lv_iload_n hx hb d_Md_execute_19 rfl (lv_at hl 1 rfl) ?_
    obtain ⟨hin, hw⟩ := hw
    refine va_zald (f := (mmd_done w1)) hx hb hK.1 hP 24 2 rfl rfl hin d_Md_execute_20 ?_
    refine lv_if_eq (tgt := 25) hx hb d_Md_execute_21 (by first | rfl | decide) (fun h3 => ?_) (fun h3 => ?_)
    · have hw := hw.1 h3
      refine lv_aload_n hx hb d_Md_execute_25 rfl (lv_at hl 0 rfl) ?_
      refine va_get (D := D) (ci := 6) (v := .ref (a1 2)) (C := R_Md) (T := F_Md) (N := 31) hx hb hts iw_Md hown hK.1 hP 0 rfl rfl 2 (by decide) (hts _ mw_429) (fun _ h => h) rfl d_Md_execute_26 ?_
      refine lv_iload_n hx hb d_Md_execute_29 rfl (lv_at hl 1 rfl) ?_
      obtain ⟨hin, hw⟩ := hw
      refine va_iald (f := (mmd_keyOf w1)) hx hb hK.1 hP 2 0 rfl rfl hin d_Md_execute_30 ?_
      refine lv_topi (fun v4 ev4 => ?_)
      have hw := hw v4 ev4
      refine lv_istore_n (lv' := [(2, .int v4), (0, .ref (a1 0)), (1, .int x1)]) hx hb d_Md_execute_31 rfl hl (by decide) rfl (fun ls hl => ?_)
      refine lv_aload_n hx hb d_Md_execute_32 rfl (lv_at hl 1 rfl) ?_
      refine va_get (D := D) (ci := 6) (v := .ref (a1 3)) (C := R_Md) (T := F_Md) (N := 31) hx hb hts iw_Md hown hK.1 hP 0 rfl rfl 3 (by decide) (hts _ mw_430) (fun _ h => h) rfl d_Md_execute_33 ?_
      refine lv_iload_n hx hb d_Md_execute_36 rfl (lv_at hl 2 rfl) ?_
      obtain ⟨hin, hw⟩ := hw
      refine va_iald (f := (mmd_numberOf w1)) hx hb hK.1 hP 3 0 rfl rfl hin d_Md_execute_37 ?_
      refine lv_topi (fun v5 ev5 => ?_)
      have hw := hw v5 ev5
      refine lv_istore_n (lv' := [(3, .int v5), (2, .int v4), (0, .ref (a1 0)), (1, .int x1)]) hx hb d_Md_execute_38 rfl hl (by decide) rfl (fun ls hl => ?_)
      refine lv_aload_n hx hb d_Md_execute_39 rfl (lv_at hl 2 rfl) ?_
      refine va_get (D := D) (ci := 6) (v := .ref (a1 23)) (C := R_Md) (T := F_Md) (N := 31) hx hb hts iw_Md hown hK.1 hP 0 rfl rfl 25 (by decide) (hts _ mw_452) (fun _ h => h) rfl d_Md_execute_40 ?_
      refine lv_iload_n hx hb d_Md_execute_43 rfl (lv_at hl 1 rfl) ?_
      obtain ⟨hin, hw⟩ := hw
      refine va_iald (f := (mmd_values w1)) hx hb hK.1 hP 23 0 rfl rfl hin d_Md_execute_44 ?_
      refine lv_topi (fun v6 ev6 => ?_)
      have hw := hw v6 ev6
      refine lv_istore (lv' := [(4, .int v6), (3, .int v5), (2, .int v4), (0, .ref (a1 0)), (1, .int x1)]) hx hb d_Md_execute_45 hl (by decide) rfl (fun ls hl => ?_)
      refine lv_aload_n hx hb d_Md_execute_47 rfl (lv_at hl 3 rfl) ?_
      refine va_get (D := D) (ci := 6) (v := .ref (a1 24)) (C := R_Md) (T := F_Md) (N := 31) hx hb hts iw_Md hown hK.1 hP 0 rfl rfl 26 (by decide) (hts _ mw_453) (fun _ h => h) rfl d_Md_execute_48 ?_
      refine lv_iload_n hx hb d_Md_execute_51 rfl (lv_at hl 4 rfl) ?_
      refine lv_iconst (v := (1 : Int32)) hx hb d_Md_execute_52 (by decide) ?_
      obtain ⟨hin, hw⟩ := hw
      refine va_zast (f := (mmd_done w1)) hx hb hK.1 hP hD hS 24 2 rfl rfl hin d_Md_execute_53 (fun H locs hP hD hS => ?_)
      have hP := (congrArg (fun w => va_P D kmC w H) (sw_mmd_s_done cI cN cZ a1 w1 (upd (mmd_done w1) (x1).toNatClampNeg (vp_nar .boolean (1 : Int32))))).mp hP
      have hD := (congrArg (va_D A) (sw_mmd_s_done cI cN cZ a1 w1 (upd (mmd_done w1) (x1).toNatClampNeg (vp_nar .boolean (1 : Int32))))).mp hD
      obtain ⟨w7, ew7⟩ : ∃ z : MmdT, z = mmd_s_done w1 (upd (mmd_done w1) (x1).toNatClampNeg (vp_nar .boolean (1 : Int32))) := ⟨_, rfl⟩
      rw [← ew7] at hP hD
      have hw := hw w7 ew7
      refine lv_aload_n hx hb d_Md_execute_54 rfl (lv_at hl 3 rfl) ?_
      refine va_get (D := D) (ci := 6) (v := .ref (a1 1)) (C := R_Md) (T := F_Md) (N := 31) hx hb hts iw_Md hown hK.1 hP 0 rfl rfl 1 (by decide) (hts _ mw_428) (fun _ h => h) rfl d_Md_execute_55 ?_
      refine lv_iload_n hx hb d_Md_execute_58 rfl (lv_at hl 4 rfl) ?_
      obtain ⟨hin, hw⟩ := hw
      refine va_iald (f := (mmd_kindOf w7)) hx hb hK.1 hP 1 0 rfl rfl hin d_Md_execute_59 ?_
      refine lv_iconst (v := (3 : Int32)) hx hb d_Md_execute_60 (by decide) ?_
      refine lv_icmp_ne (tgt := 151) hx hb d_Md_execute_61 (by first | rfl | decide) (fun h8 => ?_) (fun h8 => ?_)
      · have hw := hw.2 h8
        refine lv_aload_n hx hb d_Md_execute_151 rfl (lv_at hl 3 rfl) ?_
        refine va_get (D := D) (ci := 6) (v := .ref (a1 23)) (C := R_Md) (T := F_Md) (N := 31) hx hb hts iw_Md hown hK.1 hP 0 rfl rfl 25 (by decide) (hts _ mw_452) (fun _ h => h) rfl d_Md_execute_152 ?_
        refine lv_iload_n hx hb d_Md_execute_155 rfl (lv_at hl 2 rfl) ?_
        refine lv_aload_n hx hb d_Md_execute_156 rfl (lv_at hl 3 rfl) ?_
        refine va_get (D := D) (ci := 6) (v := .ref (a1 1)) (C := R_Md) (T := F_Md) (N := 31) hx hb hts iw_Md hown hK.1 hP 0 rfl rfl 1 (by decide) (hts _ mw_428) (fun _ h => h) rfl d_Md_execute_157 ?_
        refine lv_iload_n hx hb d_Md_execute_160 rfl (lv_at hl 4 rfl) ?_
        obtain ⟨hin, hw⟩ := hw
        refine va_iald (f := (mmd_kindOf w7)) hx hb hK.1 hP 1 0 rfl rfl hin d_Md_execute_161 ?_
        refine lv_if_ne (tgt := 170) hx hb d_Md_execute_162 (by first | rfl | decide) (fun h9 => ?_) (fun h9 => ?_)
        · have hw := hw.2 h9
          refine lv_aload_n hx hb d_Md_execute_170 rfl (lv_at hl 3 rfl) ?_
          refine va_get (D := D) (ci := 6) (v := .ref (a1 1)) (C := R_Md) (T := F_Md) (N := 31) hx hb hts iw_Md hown hK.1 hP 0 rfl rfl 1 (by decide) (hts _ mw_428) (fun _ h => h) rfl d_Md_execute_171 ?_
          refine lv_iload_n hx hb d_Md_execute_174 rfl (lv_at hl 4 rfl) ?_
          obtain ⟨hin, hw⟩ := hw
          refine va_iald (f := (mmd_kindOf w7)) hx hb hK.1 hP 1 0 rfl rfl hin d_Md_execute_175 ?_
          refine lv_iconst (v := (1 : Int32)) hx hb d_Md_execute_176 (by decide) ?_
          refine lv_icmp_ne (tgt := 184) hx hb d_Md_execute_177 (by first | rfl | decide) (fun h10 => ?_) (fun h10 => ?_)
          · have hw := hw.2 h10
            refine lv_iload hx hb d_Md_execute_184 (lv_at hl 0 rfl) ?_
            refine lv_iload_n hx hb d_Md_execute_186 rfl (lv_at hl 1 rfl) ?_
            refine lv_iadd hx hb d_Md_execute_187 ?_
            obtain ⟨hin, hw⟩ := hw
            refine va_iast (f := (mmd_values w7)) hx hb hK.1 hP hD hS 23 0 rfl rfl hin d_Md_execute_188 (fun H locs hP hD hS => ?_)
            have hP := (congrArg (fun w => va_P D kmC w H) (sw_mmd_s_values cI cN cZ a1 w7 (upd (mmd_values w7) (v4).toNatClampNeg (v6 + v5)))).mp hP
            have hD := (congrArg (va_D A) (sw_mmd_s_values cI cN cZ a1 w7 (upd (mmd_values w7) (v4).toNatClampNeg (v6 + v5)))).mp hD
            obtain ⟨w11, ew11⟩ : ∃ z : MmdT, z = mmd_s_values w7 (upd (mmd_values w7) (v4).toNatClampNeg (v6 + v5)) := ⟨_, rfl⟩
            rw [← ew11] at hP hD
            have hw := hw w11 ew11
            refine lv_aload_n hx hb d_Md_execute_189 rfl (lv_at hl 3 rfl) ?_
            refine va_get (D := D) (ci := 6) (v := .ref (a1 25)) (C := R_Md) (T := F_Md) (N := 31) hx hb hts iw_Md hown hK.1 hP 0 rfl rfl 27 (by decide) (hts _ mw_454) (fun _ h => h) rfl d_Md_execute_190 ?_
            refine lv_iload_n hx hb d_Md_execute_193 rfl (lv_at hl 4 rfl) ?_
            refine lv_aload_n hx hb d_Md_execute_194 rfl (lv_at hl 3 rfl) ?_
            refine va_get (D := D) (ci := 6) (v := .ref (a1 1)) (C := R_Md) (T := F_Md) (N := 31) hx hb hts iw_Md hown hK.1 hP 0 rfl rfl 1 (by decide) (hts _ mw_428) (fun _ h => h) rfl d_Md_execute_195 ?_
            refine lv_iload_n hx hb d_Md_execute_198 rfl (lv_at hl 4 rfl) ?_
            obtain ⟨hin, hw⟩ := hw
            refine va_iald (f := (mmd_kindOf w11)) hx hb hK.1 hP 1 0 rfl rfl hin d_Md_execute_199 ?_
            refine lv_iconst (v := (2 : Int32)) hx hb d_Md_execute_200 (by decide) ?_
            refine lv_icmp_ne (tgt := 213) hx hb d_Md_execute_201 (by first | rfl | decide) (fun h12 => ?_) (fun h12 => ?_)
            · have hw := hw.2 h12
              refine lv_iload hx hb d_Md_execute_213 (lv_at hl 0 rfl) ?_
              obtain ⟨hin, hw⟩ := hw
              refine va_iast (f := (mmd_answers w11)) hx hb hK.1 hP hD hS 25 0 rfl rfl hin d_Md_execute_215 (fun H locs hP hD hS => ?_)
              have hP := (congrArg (fun w => va_P D kmC w H) (sw_mmd_s_answers cI cN cZ a1 w11 (upd (mmd_answers w11) (x1).toNatClampNeg v6))).mp hP
              have hD := (congrArg (va_D A) (sw_mmd_s_answers cI cN cZ a1 w11 (upd (mmd_answers w11) (x1).toNatClampNeg v6))).mp hD
              obtain ⟨w13, ew13⟩ : ∃ z : MmdT, z = mmd_s_answers w11 (upd (mmd_answers w11) (x1).toNatClampNeg v6) := ⟨_, rfl⟩
              rw [← ew13] at hP hD
              have hw := hw w13 ew13
              exact W.vret hx hb hr (fun t ht hW => ⟨⟨w13, rfl, hw, by rw [ht]; exact hP, hD⟩, hS.F ht⟩) hS.2.2 d_Md_execute_216
            · have hw := hw.1 h12
              refine lv_aload_n hx hb d_Md_execute_204 rfl (lv_at hl 3 rfl) ?_
              refine va_get (D := D) (ci := 6) (v := .ref (a1 23)) (C := R_Md) (T := F_Md) (N := 31) hx hb hts iw_Md hown hK.1 hP 0 rfl rfl 25 (by decide) (hts _ mw_452) (fun _ h => h) rfl d_Md_execute_205 ?_
              refine lv_iload_n hx hb d_Md_execute_208 rfl (lv_at hl 2 rfl) ?_
              obtain ⟨hin, hw⟩ := hw
              refine va_iald (f := (mmd_values w11)) hx hb hK.1 hP 23 0 rfl rfl hin d_Md_execute_209 ?_
              refine lv_goto (tgt := 215) hx hb d_Md_execute_210 (by first | rfl | decide) ?_
              obtain ⟨hin, hw⟩ := hw
              refine va_iast (f := (mmd_answers w11)) hx hb hK.1 hP hD hS 25 0 rfl rfl hin d_Md_execute_215 (fun H locs hP hD hS => ?_)
              have hP := (congrArg (fun w => va_P D kmC w H) (sw_mmd_s_answers cI cN cZ a1 w11 (upd (mmd_answers w11) (x1).toNatClampNeg ((mmd_values w11) (v4).toNatClampNeg)))).mp hP
              have hD := (congrArg (va_D A) (sw_mmd_s_answers cI cN cZ a1 w11 (upd (mmd_answers w11) (x1).toNatClampNeg ((mmd_values w11) (v4).toNatClampNeg)))).mp hD
              obtain ⟨w14, ew14⟩ : ∃ z : MmdT, z = mmd_s_answers w11 (upd (mmd_answers w11) (x1).toNatClampNeg ((mmd_values w11) (v4).toNatClampNeg)) := ⟨_, rfl⟩
              rw [← ew14] at hP hD
              have hw := hw w14 ew14
              exact W.vret hx hb hr (fun t ht hW => ⟨⟨w14, rfl, hw, by rw [ht]; exact hP, hD⟩, hS.F ht⟩) hS.2.2 d_Md_execute_216
          · have hw := hw.1 h10
            refine lv_iload_n hx hb d_Md_execute_180 rfl (lv_at hl 1 rfl) ?_
            refine lv_goto (tgt := 188) hx hb d_Md_execute_181 (by first | rfl | decide) ?_
            obtain ⟨hin, hw⟩ := hw
            refine va_iast (f := (mmd_values w7)) hx hb hK.1 hP hD hS 23 0 rfl rfl hin d_Md_execute_188 (fun H locs hP hD hS => ?_)
            have hP := (congrArg (fun w => va_P D kmC w H) (sw_mmd_s_values cI cN cZ a1 w7 (upd (mmd_values w7) (v4).toNatClampNeg v5))).mp hP
            have hD := (congrArg (va_D A) (sw_mmd_s_values cI cN cZ a1 w7 (upd (mmd_values w7) (v4).toNatClampNeg v5))).mp hD
            obtain ⟨w15, ew15⟩ : ∃ z : MmdT, z = mmd_s_values w7 (upd (mmd_values w7) (v4).toNatClampNeg v5) := ⟨_, rfl⟩
            rw [← ew15] at hP hD
            have hw := hw w15 ew15
            refine lv_aload_n hx hb d_Md_execute_189 rfl (lv_at hl 3 rfl) ?_
            refine va_get (D := D) (ci := 6) (v := .ref (a1 25)) (C := R_Md) (T := F_Md) (N := 31) hx hb hts iw_Md hown hK.1 hP 0 rfl rfl 27 (by decide) (hts _ mw_454) (fun _ h => h) rfl d_Md_execute_190 ?_
            refine lv_iload_n hx hb d_Md_execute_193 rfl (lv_at hl 4 rfl) ?_
            refine lv_aload_n hx hb d_Md_execute_194 rfl (lv_at hl 3 rfl) ?_
            refine va_get (D := D) (ci := 6) (v := .ref (a1 1)) (C := R_Md) (T := F_Md) (N := 31) hx hb hts iw_Md hown hK.1 hP 0 rfl rfl 1 (by decide) (hts _ mw_428) (fun _ h => h) rfl d_Md_execute_195 ?_
            refine lv_iload_n hx hb d_Md_execute_198 rfl (lv_at hl 4 rfl) ?_
            obtain ⟨hin, hw⟩ := hw
            refine va_iald (f := (mmd_kindOf w15)) hx hb hK.1 hP 1 0 rfl rfl hin d_Md_execute_199 ?_
            refine lv_iconst (v := (2 : Int32)) hx hb d_Md_execute_200 (by decide) ?_
            refine lv_icmp_ne (tgt := 213) hx hb d_Md_execute_201 (by first | rfl | decide) (fun h16 => ?_) (fun h16 => ?_)
            · have hw := hw.2 h16
              refine lv_iload hx hb d_Md_execute_213 (lv_at hl 0 rfl) ?_
              obtain ⟨hin, hw⟩ := hw
              refine va_iast (f := (mmd_answers w15)) hx hb hK.1 hP hD hS 25 0 rfl rfl hin d_Md_execute_215 (fun H locs hP hD hS => ?_)
              have hP := (congrArg (fun w => va_P D kmC w H) (sw_mmd_s_answers cI cN cZ a1 w15 (upd (mmd_answers w15) (x1).toNatClampNeg v6))).mp hP
              have hD := (congrArg (va_D A) (sw_mmd_s_answers cI cN cZ a1 w15 (upd (mmd_answers w15) (x1).toNatClampNeg v6))).mp hD
              obtain ⟨w17, ew17⟩ : ∃ z : MmdT, z = mmd_s_answers w15 (upd (mmd_answers w15) (x1).toNatClampNeg v6) := ⟨_, rfl⟩
              rw [← ew17] at hP hD
              have hw := hw w17 ew17
              exact W.vret hx hb hr (fun t ht hW => ⟨⟨w17, rfl, hw, by rw [ht]; exact hP, hD⟩, hS.F ht⟩) hS.2.2 d_Md_execute_216
            · have hw := hw.1 h16
              refine lv_aload_n hx hb d_Md_execute_204 rfl (lv_at hl 3 rfl) ?_
              refine va_get (D := D) (ci := 6) (v := .ref (a1 23)) (C := R_Md) (T := F_Md) (N := 31) hx hb hts iw_Md hown hK.1 hP 0 rfl rfl 25 (by decide) (hts _ mw_452) (fun _ h => h) rfl d_Md_execute_205 ?_
              refine lv_iload_n hx hb d_Md_execute_208 rfl (lv_at hl 2 rfl) ?_
              obtain ⟨hin, hw⟩ := hw
              refine va_iald (f := (mmd_values w15)) hx hb hK.1 hP 23 0 rfl rfl hin d_Md_execute_209 ?_
              refine lv_goto (tgt := 215) hx hb d_Md_execute_210 (by first | rfl | decide) ?_
              obtain ⟨hin, hw⟩ := hw
              refine va_iast (f := (mmd_answers w15)) hx hb hK.1 hP hD hS 25 0 rfl rfl hin d_Md_execute_215 (fun H locs hP hD hS => ?_)
              have hP := (congrArg (fun w => va_P D kmC w H) (sw_mmd_s_answers cI cN cZ a1 w15 (upd (mmd_answers w15) (x1).toNatClampNeg ((mmd_values w15) (v4).toNatClampNeg)))).mp hP
              have hD := (congrArg (va_D A) (sw_mmd_s_answers cI cN cZ a1 w15 (upd (mmd_answers w15) (x1).toNatClampNeg ((mmd_values w15) (v4).toNatClampNeg)))).mp hD
              obtain ⟨w18, ew18⟩ : ∃ z : MmdT, z = mmd_s_answers w15 (upd (mmd_answers w15) (x1).toNatClampNeg ((mmd_values w15) (v4).toNatClampNeg)) := ⟨_, rfl⟩
              rw [← ew18] at hP hD
              have hw := hw w18 ew18
              exact W.vret hx hb hr (fun t ht hW => ⟨⟨w18, rfl, hw, by rw [ht]; exact hP, hD⟩, hS.F ht⟩) hS.2.2 d_Md_execute_216
        · have hw := hw.1 h9
          refine lv_iload hx hb d_Md_execute_165 (lv_at hl 0 rfl) ?_
          refine lv_goto (tgt := 188) hx hb d_Md_execute_167 (by first | rfl | decide) ?_
          obtain ⟨hin, hw⟩ := hw
          refine va_iast (f := (mmd_values w7)) hx hb hK.1 hP hD hS 23 0 rfl rfl hin d_Md_execute_188 (fun H locs hP hD hS => ?_)
          have hP := (congrArg (fun w => va_P D kmC w H) (sw_mmd_s_values cI cN cZ a1 w7 (upd (mmd_values w7) (v4).toNatClampNeg v6))).mp hP
          have hD := (congrArg (va_D A) (sw_mmd_s_values cI cN cZ a1 w7 (upd (mmd_values w7) (v4).toNatClampNeg v6))).mp hD
          obtain ⟨w19, ew19⟩ : ∃ z : MmdT, z = mmd_s_values w7 (upd (mmd_values w7) (v4).toNatClampNeg v6) := ⟨_, rfl⟩
          rw [← ew19] at hP hD
          have hw := hw w19 ew19
          refine lv_aload_n hx hb d_Md_execute_189 rfl (lv_at hl 3 rfl) ?_
          refine va_get (D := D) (ci := 6) (v := .ref (a1 25)) (C := R_Md) (T := F_Md) (N := 31) hx hb hts iw_Md hown hK.1 hP 0 rfl rfl 27 (by decide) (hts _ mw_454) (fun _ h => h) rfl d_Md_execute_190 ?_
          refine lv_iload_n hx hb d_Md_execute_193 rfl (lv_at hl 4 rfl) ?_
          refine lv_aload_n hx hb d_Md_execute_194 rfl (lv_at hl 3 rfl) ?_
          refine va_get (D := D) (ci := 6) (v := .ref (a1 1)) (C := R_Md) (T := F_Md) (N := 31) hx hb hts iw_Md hown hK.1 hP 0 rfl rfl 1 (by decide) (hts _ mw_428) (fun _ h => h) rfl d_Md_execute_195 ?_
          refine lv_iload_n hx hb d_Md_execute_198 rfl (lv_at hl 4 rfl) ?_
          obtain ⟨hin, hw⟩ := hw
          refine va_iald (f := (mmd_kindOf w19)) hx hb hK.1 hP 1 0 rfl rfl hin d_Md_execute_199 ?_
          refine lv_iconst (v := (2 : Int32)) hx hb d_Md_execute_200 (by decide) ?_
          refine lv_icmp_ne (tgt := 213) hx hb d_Md_execute_201 (by first | rfl | decide) (fun h20 => ?_) (fun h20 => ?_)
          · have hw := hw.2 h20
            refine lv_iload hx hb d_Md_execute_213 (lv_at hl 0 rfl) ?_
            obtain ⟨hin, hw⟩ := hw
            refine va_iast (f := (mmd_answers w19)) hx hb hK.1 hP hD hS 25 0 rfl rfl hin d_Md_execute_215 (fun H locs hP hD hS => ?_)
            have hP := (congrArg (fun w => va_P D kmC w H) (sw_mmd_s_answers cI cN cZ a1 w19 (upd (mmd_answers w19) (x1).toNatClampNeg v6))).mp hP
            have hD := (congrArg (va_D A) (sw_mmd_s_answers cI cN cZ a1 w19 (upd (mmd_answers w19) (x1).toNatClampNeg v6))).mp hD
            obtain ⟨w21, ew21⟩ : ∃ z : MmdT, z = mmd_s_answers w19 (upd (mmd_answers w19) (x1).toNatClampNeg v6) := ⟨_, rfl⟩
            rw [← ew21] at hP hD
            have hw := hw w21 ew21
            exact W.vret hx hb hr (fun t ht hW => ⟨⟨w21, rfl, hw, by rw [ht]; exact hP, hD⟩, hS.F ht⟩) hS.2.2 d_Md_execute_216
          · have hw := hw.1 h20
            refine lv_aload_n hx hb d_Md_execute_204 rfl (lv_at hl 3 rfl) ?_
            refine va_get (D := D) (ci := 6) (v := .ref (a1 23)) (C := R_Md) (T := F_Md) (N := 31) hx hb hts iw_Md hown hK.1 hP 0 rfl rfl 25 (by decide) (hts _ mw_452) (fun _ h => h) rfl d_Md_execute_205 ?_
            refine lv_iload_n hx hb d_Md_execute_208 rfl (lv_at hl 2 rfl) ?_
            obtain ⟨hin, hw⟩ := hw
            refine va_iald (f := (mmd_values w19)) hx hb hK.1 hP 23 0 rfl rfl hin d_Md_execute_209 ?_
            refine lv_goto (tgt := 215) hx hb d_Md_execute_210 (by first | rfl | decide) ?_
            obtain ⟨hin, hw⟩ := hw
            refine va_iast (f := (mmd_answers w19)) hx hb hK.1 hP hD hS 25 0 rfl rfl hin d_Md_execute_215 (fun H locs hP hD hS => ?_)
            have hP := (congrArg (fun w => va_P D kmC w H) (sw_mmd_s_answers cI cN cZ a1 w19 (upd (mmd_answers w19) (x1).toNatClampNeg ((mmd_values w19) (v4).toNatClampNeg)))).mp hP
            have hD := (congrArg (va_D A) (sw_mmd_s_answers cI cN cZ a1 w19 (upd (mmd_answers w19) (x1).toNatClampNeg ((mmd_values w19) (v4).toNatClampNeg)))).mp hD
            obtain ⟨w22, ew22⟩ : ∃ z : MmdT, z = mmd_s_answers w19 (upd (mmd_answers w19) (x1).toNatClampNeg ((mmd_values w19) (v4).toNatClampNeg)) := ⟨_, rfl⟩
            rw [← ew22] at hP hD
            have hw := hw w22 ew22
            exact W.vret hx hb hr (fun t ht hW => ⟨⟨w22, rfl, hw, by rw [ht]; exact hP, hD⟩, hS.F ht⟩) hS.2.2 d_Md_execute_216
      · have hw := hw.1 h8
        refine lv_aload_n hx hb d_Md_execute_64 rfl (lv_at hl 3 rfl) ?_
        refine va_get (D := D) (ci := 6) (v := .ref (a1 25)) (C := R_Md) (T := F_Md) (N := 31) hx hb hts iw_Md hown hK.1 hP 0 rfl rfl 27 (by decide) (hts _ mw_454) (fun _ h => h) rfl d_Md_execute_65 ?_
        refine lv_iload_n hx hb d_Md_execute_68 rfl (lv_at hl 4 rfl) ?_
        refine lv_aload_n hx hb d_Md_execute_69 rfl (lv_at hl 3 rfl) ?_
        refine va_get (D := D) (ci := 6) (v := .int (mmd_atC w7)) (C := R_Md) (T := F_Md) (N := 31) hx hb hts iw_Md hown hK.1 hP 0 rfl rfl 29 (by decide) (hts _ mw_456) (fun _ h => h) rfl d_Md_execute_70 ?_
        refine lv_iconst (v := (4 : Int32)) hx hb d_Md_execute_73 (by decide) ?_
        refine lv_icmp_ne (tgt := 81) hx hb d_Md_execute_74 (by first | rfl | decide) (fun h23 => ?_) (fun h23 => ?_)
        · have hw := hw.2 h23
          refine lv_aload_n hx hb d_Md_execute_81 rfl (lv_at hl 3 rfl) ?_
          refine va_get (D := D) (ci := 6) (v := .int (mmd_atC w7)) (C := R_Md) (T := F_Md) (N := 31) hx hb hts iw_Md hown hK.1 hP 0 rfl rfl 29 (by decide) (hts _ mw_456) (fun _ h => h) rfl d_Md_execute_82 ?_
          refine lv_iconst (v := (1 : Int32)) hx hb d_Md_execute_85 (by decide) ?_
          refine lv_iadd hx hb d_Md_execute_86 ?_
          obtain ⟨hin, hw⟩ := hw
          refine va_iast (f := (mmd_answers w7)) hx hb hK.1 hP hD hS 25 0 rfl rfl hin d_Md_execute_87 (fun H locs hP hD hS => ?_)
          have hP := (congrArg (fun w => va_P D kmC w H) (sw_mmd_s_answers cI cN cZ a1 w7 (upd (mmd_answers w7) (x1).toNatClampNeg ((mmd_atC w7) + (1 : Int32))))).mp hP
          have hD := (congrArg (va_D A) (sw_mmd_s_answers cI cN cZ a1 w7 (upd (mmd_answers w7) (x1).toNatClampNeg ((mmd_atC w7) + (1 : Int32))))).mp hD
          obtain ⟨w24, ew24⟩ : ∃ z : MmdT, z = mmd_s_answers w7 (upd (mmd_answers w7) (x1).toNatClampNeg ((mmd_atC w7) + (1 : Int32))) := ⟨_, rfl⟩
          rw [← ew24] at hP hD
          have hw := hw w24 ew24
          refine lv_aload_n hx hb d_Md_execute_88 rfl (lv_at hl 3 rfl) ?_
          refine lv_aload_n hx hb d_Md_execute_89 rfl (lv_at hl 3 rfl) ?_
          refine va_get (D := D) (ci := 6) (v := .int (mmd_atC w24)) (C := R_Md) (T := F_Md) (N := 31) hx hb hts iw_Md hown hK.1 hP 0 rfl rfl 29 (by decide) (hts _ mw_456) (fun _ h => h) rfl d_Md_execute_90 ?_
          refine lv_iconst (v := (4 : Int32)) hx hb d_Md_execute_93 (by decide) ?_
          refine lv_icmp_ne (tgt := 104) hx hb d_Md_execute_94 (by first | rfl | decide) (fun h25 => ?_) (fun h25 => ?_)
          · have hw := hw.2 h25
            refine lv_iload_n hx hb d_Md_execute_104 rfl (lv_at hl 1 rfl) ?_
            refine va_put (D := D) (ci := 6) (v := .int v5) (ty := .int) (C := R_Md) (T := F_Md) (N := 31) hx hb hts iw_Md t_Md t_Md_ok n_Md hown hK.1 hP hD hS 0 rfl rfl 28 (by decide) (hts _ mw_455) (fun _ h => h) rfl (t_Md_ok 28 (by decide)) rfl rfl (Nat.le_of_ble_eq_true rfl) d_Md_execute_105 (fun H locs hP hD hS => ?_)
            have hP := (congrArg (fun w => va_P D kmC w H) (sw_mmd_s_members cI cN cZ a1 w24 v5)).mp hP
            have hD := (congrArg (va_D A) (sw_mmd_s_members cI cN cZ a1 w24 v5)).mp hD
            obtain ⟨w26, ew26⟩ : ∃ z : MmdT, z = mmd_s_members w24 v5 := ⟨_, rfl⟩
            rw [← ew26] at hP hD
            have hw := hw w26 ew26
            refine lv_aload_n hx hb d_Md_execute_108 rfl (lv_at hl 3 rfl) ?_
            refine lv_aload_n hx hb d_Md_execute_109 rfl (lv_at hl 3 rfl) ?_
            refine va_get (D := D) (ci := 6) (v := .int (mmd_atC w26)) (C := R_Md) (T := F_Md) (N := 31) hx hb hts iw_Md hown hK.1 hP 0 rfl rfl 29 (by decide) (hts _ mw_456) (fun _ h => h) rfl d_Md_execute_110 ?_
            refine lv_iconst (v := (4 : Int32)) hx hb d_Md_execute_113 (by decide) ?_
            refine lv_icmp_ne (tgt := 124) hx hb d_Md_execute_114 (by first | rfl | decide) (fun h27 => ?_) (fun h27 => ?_)
            · have hw := hw.2 h27
              refine lv_iconst (v := (0 : Int32)) hx hb d_Md_execute_124 (by decide) ?_
              refine va_put (D := D) (ci := 6) (v := .int (0 : Int32)) (ty := .int) (C := R_Md) (T := F_Md) (N := 31) hx hb hts iw_Md t_Md t_Md_ok n_Md hown hK.1 hP hD hS 0 rfl rfl 30 (by decide) (hts _ mw_457) (fun _ h => h) rfl (t_Md_ok 30 (by decide)) rfl rfl (Nat.le_of_ble_eq_true rfl) d_Md_execute_125 (fun H locs hP hD hS => ?_)
              have hP := (congrArg (fun w => va_P D kmC w H) (sw_mmd_s_atE cI cN cZ a1 w26 (0 : Int32))).mp hP
              have hD := (congrArg (va_D A) (sw_mmd_s_atE cI cN cZ a1 w26 (0 : Int32))).mp hD
              obtain ⟨w28, ew28⟩ : ∃ z : MmdT, z = mmd_s_atE w26 (0 : Int32) := ⟨_, rfl⟩
              rw [← ew28] at hP hD
              have hw := hw w28 ew28
              refine lv_aload_n hx hb d_Md_execute_128 rfl (lv_at hl 3 rfl) ?_
              refine lv_aload_n hx hb d_Md_execute_129 rfl (lv_at hl 3 rfl) ?_
              refine va_get (D := D) (ci := 6) (v := .int (mmd_atC w28)) (C := R_Md) (T := F_Md) (N := 31) hx hb hts iw_Md hown hK.1 hP 0 rfl rfl 29 (by decide) (hts _ mw_456) (fun _ h => h) rfl d_Md_execute_130 ?_
              refine lv_iconst (v := (4 : Int32)) hx hb d_Md_execute_133 (by decide) ?_
              refine lv_icmp_ne (tgt := 141) hx hb d_Md_execute_134 (by first | rfl | decide) (fun h29 => ?_) (fun h29 => ?_)
              · have hw := hw.2 h29
                refine lv_aload_n hx hb d_Md_execute_141 rfl (lv_at hl 3 rfl) ?_
                refine va_get (D := D) (ci := 6) (v := .int (mmd_atC w28)) (C := R_Md) (T := F_Md) (N := 31) hx hb hts iw_Md hown hK.1 hP 0 rfl rfl 29 (by decide) (hts _ mw_456) (fun _ h => h) rfl d_Md_execute_142 ?_
                refine lv_iconst (v := (1 : Int32)) hx hb d_Md_execute_145 (by decide) ?_
                refine lv_iadd hx hb d_Md_execute_146 ?_
                refine va_put (D := D) (ci := 6) (v := .int ((mmd_atC w28) + (1 : Int32))) (ty := .int) (C := R_Md) (T := F_Md) (N := 31) hx hb hts iw_Md t_Md t_Md_ok n_Md hown hK.1 hP hD hS 0 rfl rfl 29 (by decide) (hts _ mw_456) (fun _ h => h) rfl (t_Md_ok 29 (by decide)) rfl rfl (Nat.le_of_ble_eq_true rfl) d_Md_execute_147 (fun H locs hP hD hS => ?_)
                have hP := (congrArg (fun w => va_P D kmC w H) (sw_mmd_s_atC cI cN cZ a1 w28 ((mmd_atC w28) + (1 : Int32)))).mp hP
                have hD := (congrArg (va_D A) (sw_mmd_s_atC cI cN cZ a1 w28 ((mmd_atC w28) + (1 : Int32)))).mp hD
                obtain ⟨w30, ew30⟩ : ∃ z : MmdT, z = mmd_s_atC w28 ((mmd_atC w28) + (1 : Int32)) := ⟨_, rfl⟩
                rw [← ew30] at hP hD
                have hw := hw w30 ew30
                exact W.vret hx hb hr (fun t ht hW => ⟨⟨w30, rfl, hw, by rw [ht]; exact hP, hD⟩, hS.F ht⟩) hS.2.2 d_Md_execute_150
              · have hw := hw.1 h29
                refine lv_iconst (v := (4 : Int32)) hx hb d_Md_execute_137 (by decide) ?_
                refine lv_goto (tgt := 147) hx hb d_Md_execute_138 (by first | rfl | decide) ?_
                refine va_put (D := D) (ci := 6) (v := .int (4 : Int32)) (ty := .int) (C := R_Md) (T := F_Md) (N := 31) hx hb hts iw_Md t_Md t_Md_ok n_Md hown hK.1 hP hD hS 0 rfl rfl 29 (by decide) (hts _ mw_456) (fun _ h => h) rfl (t_Md_ok 29 (by decide)) rfl rfl (Nat.le_of_ble_eq_true rfl) d_Md_execute_147 (fun H locs hP hD hS => ?_)
                have hP := (congrArg (fun w => va_P D kmC w H) (sw_mmd_s_atC cI cN cZ a1 w28 (4 : Int32))).mp hP
                have hD := (congrArg (va_D A) (sw_mmd_s_atC cI cN cZ a1 w28 (4 : Int32))).mp hD
                obtain ⟨w31, ew31⟩ : ∃ z : MmdT, z = mmd_s_atC w28 (4 : Int32) := ⟨_, rfl⟩
                rw [← ew31] at hP hD
                have hw := hw w31 ew31
                exact W.vret hx hb hr (fun t ht hW => ⟨⟨w31, rfl, hw, by rw [ht]; exact hP, hD⟩, hS.F ht⟩) hS.2.2 d_Md_execute_150
            · have hw := hw.1 h27
              refine lv_aload_n hx hb d_Md_execute_117 rfl (lv_at hl 3 rfl) ?_
              refine va_get (D := D) (ci := 6) (v := .int (mmd_atE w26)) (C := R_Md) (T := F_Md) (N := 31) hx hb hts iw_Md hown hK.1 hP 0 rfl rfl 30 (by decide) (hts _ mw_457) (fun _ h => h) rfl d_Md_execute_118 ?_
              refine lv_goto (tgt := 125) hx hb d_Md_execute_121 (by first | rfl | decide) ?_
              refine va_put (D := D) (ci := 6) (v := .int (mmd_atE w26)) (ty := .int) (C := R_Md) (T := F_Md) (N := 31) hx hb hts iw_Md t_Md t_Md_ok n_Md hown hK.1 hP hD hS 0 rfl rfl 30 (by decide) (hts _ mw_457) (fun _ h => h) rfl (t_Md_ok 30 (by decide)) rfl rfl (Nat.le_of_ble_eq_true rfl) d_Md_execute_125 (fun H locs hP hD hS => ?_)
              have hP := (congrArg (fun w => va_P D kmC w H) (sw_mmd_s_atE cI cN cZ a1 w26 (mmd_atE w26))).mp hP
              have hD := (congrArg (va_D A) (sw_mmd_s_atE cI cN cZ a1 w26 (mmd_atE w26))).mp hD
              obtain ⟨w32, ew32⟩ : ∃ z : MmdT, z = mmd_s_atE w26 (mmd_atE w26) := ⟨_, rfl⟩
              rw [← ew32] at hP hD
              have hw := hw w32 ew32
              refine lv_aload_n hx hb d_Md_execute_128 rfl (lv_at hl 3 rfl) ?_
              refine lv_aload_n hx hb d_Md_execute_129 rfl (lv_at hl 3 rfl) ?_
              refine va_get (D := D) (ci := 6) (v := .int (mmd_atC w32)) (C := R_Md) (T := F_Md) (N := 31) hx hb hts iw_Md hown hK.1 hP 0 rfl rfl 29 (by decide) (hts _ mw_456) (fun _ h => h) rfl d_Md_execute_130 ?_
              refine lv_iconst (v := (4 : Int32)) hx hb d_Md_execute_133 (by decide) ?_
              refine lv_icmp_ne (tgt := 141) hx hb d_Md_execute_134 (by first | rfl | decide) (fun h33 => ?_) (fun h33 => ?_)
              · have hw := hw.2 h33
                refine lv_aload_n hx hb d_Md_execute_141 rfl (lv_at hl 3 rfl) ?_
                refine va_get (D := D) (ci := 6) (v := .int (mmd_atC w32)) (C := R_Md) (T := F_Md) (N := 31) hx hb hts iw_Md hown hK.1 hP 0 rfl rfl 29 (by decide) (hts _ mw_456) (fun _ h => h) rfl d_Md_execute_142 ?_
                refine lv_iconst (v := (1 : Int32)) hx hb d_Md_execute_145 (by decide) ?_
                refine lv_iadd hx hb d_Md_execute_146 ?_
                refine va_put (D := D) (ci := 6) (v := .int ((mmd_atC w32) + (1 : Int32))) (ty := .int) (C := R_Md) (T := F_Md) (N := 31) hx hb hts iw_Md t_Md t_Md_ok n_Md hown hK.1 hP hD hS 0 rfl rfl 29 (by decide) (hts _ mw_456) (fun _ h => h) rfl (t_Md_ok 29 (by decide)) rfl rfl (Nat.le_of_ble_eq_true rfl) d_Md_execute_147 (fun H locs hP hD hS => ?_)
                have hP := (congrArg (fun w => va_P D kmC w H) (sw_mmd_s_atC cI cN cZ a1 w32 ((mmd_atC w32) + (1 : Int32)))).mp hP
                have hD := (congrArg (va_D A) (sw_mmd_s_atC cI cN cZ a1 w32 ((mmd_atC w32) + (1 : Int32)))).mp hD
                obtain ⟨w34, ew34⟩ : ∃ z : MmdT, z = mmd_s_atC w32 ((mmd_atC w32) + (1 : Int32)) := ⟨_, rfl⟩
                rw [← ew34] at hP hD
                have hw := hw w34 ew34
                exact W.vret hx hb hr (fun t ht hW => ⟨⟨w34, rfl, hw, by rw [ht]; exact hP, hD⟩, hS.F ht⟩) hS.2.2 d_Md_execute_150
              · have hw := hw.1 h33
                refine lv_iconst (v := (4 : Int32)) hx hb d_Md_execute_137 (by decide) ?_
                refine lv_goto (tgt := 147) hx hb d_Md_execute_138 (by first | rfl | decide) ?_
                refine va_put (D := D) (ci := 6) (v := .int (4 : Int32)) (ty := .int) (C := R_Md) (T := F_Md) (N := 31) hx hb hts iw_Md t_Md t_Md_ok n_Md hown hK.1 hP hD hS 0 rfl rfl 29 (by decide) (hts _ mw_456) (fun _ h => h) rfl (t_Md_ok 29 (by decide)) rfl rfl (Nat.le_of_ble_eq_true rfl) d_Md_execute_147 (fun H locs hP hD hS => ?_)
                have hP := (congrArg (fun w => va_P D kmC w H) (sw_mmd_s_atC cI cN cZ a1 w32 (4 : Int32))).mp hP
                have hD := (congrArg (va_D A) (sw_mmd_s_atC cI cN cZ a1 w32 (4 : Int32))).mp hD
                obtain ⟨w35, ew35⟩ : ∃ z : MmdT, z = mmd_s_atC w32 (4 : Int32) := ⟨_, rfl⟩
                rw [← ew35] at hP hD
                have hw := hw w35 ew35
                exact W.vret hx hb hr (fun t ht hW => ⟨⟨w35, rfl, hw, by rw [ht]; exact hP, hD⟩, hS.F ht⟩) hS.2.2 d_Md_execute_150
          · have hw := hw.1 h25
            refine lv_aload_n hx hb d_Md_execute_97 rfl (lv_at hl 3 rfl) ?_
            refine va_get (D := D) (ci := 6) (v := .int (mmd_members w24)) (C := R_Md) (T := F_Md) (N := 31) hx hb hts iw_Md hown hK.1 hP 0 rfl rfl 28 (by decide) (hts _ mw_455) (fun _ h => h) rfl d_Md_execute_98 ?_
            refine lv_goto (tgt := 105) hx hb d_Md_execute_101 (by first | rfl | decide) ?_
            refine va_put (D := D) (ci := 6) (v := .int (mmd_members w24)) (ty := .int) (C := R_Md) (T := F_Md) (N := 31) hx hb hts iw_Md t_Md t_Md_ok n_Md hown hK.1 hP hD hS 0 rfl rfl 28 (by decide) (hts _ mw_455) (fun _ h => h) rfl (t_Md_ok 28 (by decide)) rfl rfl (Nat.le_of_ble_eq_true rfl) d_Md_execute_105 (fun H locs hP hD hS => ?_)
            have hP := (congrArg (fun w => va_P D kmC w H) (sw_mmd_s_members cI cN cZ a1 w24 (mmd_members w24))).mp hP
            have hD := (congrArg (va_D A) (sw_mmd_s_members cI cN cZ a1 w24 (mmd_members w24))).mp hD
            obtain ⟨w36, ew36⟩ : ∃ z : MmdT, z = mmd_s_members w24 (mmd_members w24) := ⟨_, rfl⟩
            rw [← ew36] at hP hD
            have hw := hw w36 ew36
            refine lv_aload_n hx hb d_Md_execute_108 rfl (lv_at hl 3 rfl) ?_
            refine lv_aload_n hx hb d_Md_execute_109 rfl (lv_at hl 3 rfl) ?_
            refine va_get (D := D) (ci := 6) (v := .int (mmd_atC w36)) (C := R_Md) (T := F_Md) (N := 31) hx hb hts iw_Md hown hK.1 hP 0 rfl rfl 29 (by decide) (hts _ mw_456) (fun _ h => h) rfl d_Md_execute_110 ?_
            refine lv_iconst (v := (4 : Int32)) hx hb d_Md_execute_113 (by decide) ?_
            refine lv_icmp_ne (tgt := 124) hx hb d_Md_execute_114 (by first | rfl | decide) (fun h37 => ?_) (fun h37 => ?_)
            · have hw := hw.2 h37
              refine lv_iconst (v := (0 : Int32)) hx hb d_Md_execute_124 (by decide) ?_
              refine va_put (D := D) (ci := 6) (v := .int (0 : Int32)) (ty := .int) (C := R_Md) (T := F_Md) (N := 31) hx hb hts iw_Md t_Md t_Md_ok n_Md hown hK.1 hP hD hS 0 rfl rfl 30 (by decide) (hts _ mw_457) (fun _ h => h) rfl (t_Md_ok 30 (by decide)) rfl rfl (Nat.le_of_ble_eq_true rfl) d_Md_execute_125 (fun H locs hP hD hS => ?_)
              have hP := (congrArg (fun w => va_P D kmC w H) (sw_mmd_s_atE cI cN cZ a1 w36 (0 : Int32))).mp hP
              have hD := (congrArg (va_D A) (sw_mmd_s_atE cI cN cZ a1 w36 (0 : Int32))).mp hD
              obtain ⟨w38, ew38⟩ : ∃ z : MmdT, z = mmd_s_atE w36 (0 : Int32) := ⟨_, rfl⟩
              rw [← ew38] at hP hD
              have hw := hw w38 ew38
              refine lv_aload_n hx hb d_Md_execute_128 rfl (lv_at hl 3 rfl) ?_
              refine lv_aload_n hx hb d_Md_execute_129 rfl (lv_at hl 3 rfl) ?_
              refine va_get (D := D) (ci := 6) (v := .int (mmd_atC w38)) (C := R_Md) (T := F_Md) (N := 31) hx hb hts iw_Md hown hK.1 hP 0 rfl rfl 29 (by decide) (hts _ mw_456) (fun _ h => h) rfl d_Md_execute_130 ?_
              refine lv_iconst (v := (4 : Int32)) hx hb d_Md_execute_133 (by decide) ?_
              refine lv_icmp_ne (tgt := 141) hx hb d_Md_execute_134 (by first | rfl | decide) (fun h39 => ?_) (fun h39 => ?_)
              · have hw := hw.2 h39
                refine lv_aload_n hx hb d_Md_execute_141 rfl (lv_at hl 3 rfl) ?_
                refine va_get (D := D) (ci := 6) (v := .int (mmd_atC w38)) (C := R_Md) (T := F_Md) (N := 31) hx hb hts iw_Md hown hK.1 hP 0 rfl rfl 29 (by decide) (hts _ mw_456) (fun _ h => h) rfl d_Md_execute_142 ?_
                refine lv_iconst (v := (1 : Int32)) hx hb d_Md_execute_145 (by decide) ?_
                refine lv_iadd hx hb d_Md_execute_146 ?_
                refine va_put (D := D) (ci := 6) (v := .int ((mmd_atC w38) + (1 : Int32))) (ty := .int) (C := R_Md) (T := F_Md) (N := 31) hx hb hts iw_Md t_Md t_Md_ok n_Md hown hK.1 hP hD hS 0 rfl rfl 29 (by decide) (hts _ mw_456) (fun _ h => h) rfl (t_Md_ok 29 (by decide)) rfl rfl (Nat.le_of_ble_eq_true rfl) d_Md_execute_147 (fun H locs hP hD hS => ?_)
                have hP := (congrArg (fun w => va_P D kmC w H) (sw_mmd_s_atC cI cN cZ a1 w38 ((mmd_atC w38) + (1 : Int32)))).mp hP
                have hD := (congrArg (va_D A) (sw_mmd_s_atC cI cN cZ a1 w38 ((mmd_atC w38) + (1 : Int32)))).mp hD
                obtain ⟨w40, ew40⟩ : ∃ z : MmdT, z = mmd_s_atC w38 ((mmd_atC w38) + (1 : Int32)) := ⟨_, rfl⟩
                rw [← ew40] at hP hD
                have hw := hw w40 ew40
                exact W.vret hx hb hr (fun t ht hW => ⟨⟨w40, rfl, hw, by rw [ht]; exact hP, hD⟩, hS.F ht⟩) hS.2.2 d_Md_execute_150
              · have hw := hw.1 h39
                refine lv_iconst (v := (4 : Int32)) hx hb d_Md_execute_137 (by decide) ?_
                refine lv_goto (tgt := 147) hx hb d_Md_execute_138 (by first | rfl | decide) ?_
                refine va_put (D := D) (ci := 6) (v := .int (4 : Int32)) (ty := .int) (C := R_Md) (T := F_Md) (N := 31) hx hb hts iw_Md t_Md t_Md_ok n_Md hown hK.1 hP hD hS 0 rfl rfl 29 (by decide) (hts _ mw_456) (fun _ h => h) rfl (t_Md_ok 29 (by decide)) rfl rfl (Nat.le_of_ble_eq_true rfl) d_Md_execute_147 (fun H locs hP hD hS => ?_)
                have hP := (congrArg (fun w => va_P D kmC w H) (sw_mmd_s_atC cI cN cZ a1 w38 (4 : Int32))).mp hP
                have hD := (congrArg (va_D A) (sw_mmd_s_atC cI cN cZ a1 w38 (4 : Int32))).mp hD
                obtain ⟨w41, ew41⟩ : ∃ z : MmdT, z = mmd_s_atC w38 (4 : Int32) := ⟨_, rfl⟩
                rw [← ew41] at hP hD
                have hw := hw w41 ew41
                exact W.vret hx hb hr (fun t ht hW => ⟨⟨w41, rfl, hw, by rw [ht]; exact hP, hD⟩, hS.F ht⟩) hS.2.2 d_Md_execute_150
            · have hw := hw.1 h37
              refine lv_aload_n hx hb d_Md_execute_117 rfl (lv_at hl 3 rfl) ?_
              refine va_get (D := D) (ci := 6) (v := .int (mmd_atE w36)) (C := R_Md) (T := F_Md) (N := 31) hx hb hts iw_Md hown hK.1 hP 0 rfl rfl 30 (by decide) (hts _ mw_457) (fun _ h => h) rfl d_Md_execute_118 ?_
              refine lv_goto (tgt := 125) hx hb d_Md_execute_121 (by first | rfl | decide) ?_
              refine va_put (D := D) (ci := 6) (v := .int (mmd_atE w36)) (ty := .int) (C := R_Md) (T := F_Md) (N := 31) hx hb hts iw_Md t_Md t_Md_ok n_Md hown hK.1 hP hD hS 0 rfl rfl 30 (by decide) (hts _ mw_457) (fun _ h => h) rfl (t_Md_ok 30 (by decide)) rfl rfl (Nat.le_of_ble_eq_true rfl) d_Md_execute_125 (fun H locs hP hD hS => ?_)
              have hP := (congrArg (fun w => va_P D kmC w H) (sw_mmd_s_atE cI cN cZ a1 w36 (mmd_atE w36))).mp hP
              have hD := (congrArg (va_D A) (sw_mmd_s_atE cI cN cZ a1 w36 (mmd_atE w36))).mp hD
              obtain ⟨w42, ew42⟩ : ∃ z : MmdT, z = mmd_s_atE w36 (mmd_atE w36) := ⟨_, rfl⟩
              rw [← ew42] at hP hD
              have hw := hw w42 ew42
              refine lv_aload_n hx hb d_Md_execute_128 rfl (lv_at hl 3 rfl) ?_
              refine lv_aload_n hx hb d_Md_execute_129 rfl (lv_at hl 3 rfl) ?_
              refine va_get (D := D) (ci := 6) (v := .int (mmd_atC w42)) (C := R_Md) (T := F_Md) (N := 31) hx hb hts iw_Md hown hK.1 hP 0 rfl rfl 29 (by decide) (hts _ mw_456) (fun _ h => h) rfl d_Md_execute_130 ?_
              refine lv_iconst (v := (4 : Int32)) hx hb d_Md_execute_133 (by decide) ?_
              refine lv_icmp_ne (tgt := 141) hx hb d_Md_execute_134 (by first | rfl | decide) (fun h43 => ?_) (fun h43 => ?_)
              · have hw := hw.2 h43
                refine lv_aload_n hx hb d_Md_execute_141 rfl (lv_at hl 3 rfl) ?_
                refine va_get (D := D) (ci := 6) (v := .int (mmd_atC w42)) (C := R_Md) (T := F_Md) (N := 31) hx hb hts iw_Md hown hK.1 hP 0 rfl rfl 29 (by decide) (hts _ mw_456) (fun _ h => h) rfl d_Md_execute_142 ?_
                refine lv_iconst (v := (1 : Int32)) hx hb d_Md_execute_145 (by decide) ?_
                refine lv_iadd hx hb d_Md_execute_146 ?_
                refine va_put (D := D) (ci := 6) (v := .int ((mmd_atC w42) + (1 : Int32))) (ty := .int) (C := R_Md) (T := F_Md) (N := 31) hx hb hts iw_Md t_Md t_Md_ok n_Md hown hK.1 hP hD hS 0 rfl rfl 29 (by decide) (hts _ mw_456) (fun _ h => h) rfl (t_Md_ok 29 (by decide)) rfl rfl (Nat.le_of_ble_eq_true rfl) d_Md_execute_147 (fun H locs hP hD hS => ?_)
                have hP := (congrArg (fun w => va_P D kmC w H) (sw_mmd_s_atC cI cN cZ a1 w42 ((mmd_atC w42) + (1 : Int32)))).mp hP
                have hD := (congrArg (va_D A) (sw_mmd_s_atC cI cN cZ a1 w42 ((mmd_atC w42) + (1 : Int32)))).mp hD
                obtain ⟨w44, ew44⟩ : ∃ z : MmdT, z = mmd_s_atC w42 ((mmd_atC w42) + (1 : Int32)) := ⟨_, rfl⟩
                rw [← ew44] at hP hD
                have hw := hw w44 ew44
                exact W.vret hx hb hr (fun t ht hW => ⟨⟨w44, rfl, hw, by rw [ht]; exact hP, hD⟩, hS.F ht⟩) hS.2.2 d_Md_execute_150
              · have hw := hw.1 h43
                refine lv_iconst (v := (4 : Int32)) hx hb d_Md_execute_137 (by decide) ?_
                refine lv_goto (tgt := 147) hx hb d_Md_execute_138 (by first | rfl | decide) ?_
                refine va_put (D := D) (ci := 6) (v := .int (4 : Int32)) (ty := .int) (C := R_Md) (T := F_Md) (N := 31) hx hb hts iw_Md t_Md t_Md_ok n_Md hown hK.1 hP hD hS 0 rfl rfl 29 (by decide) (hts _ mw_456) (fun _ h => h) rfl (t_Md_ok 29 (by decide)) rfl rfl (Nat.le_of_ble_eq_true rfl) d_Md_execute_147 (fun H locs hP hD hS => ?_)
                have hP := (congrArg (fun w => va_P D kmC w H) (sw_mmd_s_atC cI cN cZ a1 w42 (4 : Int32))).mp hP
                have hD := (congrArg (va_D A) (sw_mmd_s_atC cI cN cZ a1 w42 (4 : Int32))).mp hD
                obtain ⟨w45, ew45⟩ : ∃ z : MmdT, z = mmd_s_atC w42 (4 : Int32) := ⟨_, rfl⟩
                rw [← ew45] at hP hD
                have hw := hw w45 ew45
                exact W.vret hx hb hr (fun t ht hW => ⟨⟨w45, rfl, hw, by rw [ht]; exact hP, hD⟩, hS.F ht⟩) hS.2.2 d_Md_execute_150
        · have hw := hw.1 h23
          refine lv_iconst (v := (-1 : Int32)) hx hb d_Md_execute_77 (by decide) ?_
          refine lv_goto (tgt := 87) hx hb d_Md_execute_78 (by first | rfl | decide) ?_
          obtain ⟨hin, hw⟩ := hw
          refine va_iast (f := (mmd_answers w7)) hx hb hK.1 hP hD hS 25 0 rfl rfl hin d_Md_execute_87 (fun H locs hP hD hS => ?_)
          have hP := (congrArg (fun w => va_P D kmC w H) (sw_mmd_s_answers cI cN cZ a1 w7 (upd (mmd_answers w7) (x1).toNatClampNeg (-1 : Int32)))).mp hP
          have hD := (congrArg (va_D A) (sw_mmd_s_answers cI cN cZ a1 w7 (upd (mmd_answers w7) (x1).toNatClampNeg (-1 : Int32)))).mp hD
          obtain ⟨w46, ew46⟩ : ∃ z : MmdT, z = mmd_s_answers w7 (upd (mmd_answers w7) (x1).toNatClampNeg (-1 : Int32)) := ⟨_, rfl⟩
          rw [← ew46] at hP hD
          have hw := hw w46 ew46
          refine lv_aload_n hx hb d_Md_execute_88 rfl (lv_at hl 3 rfl) ?_
          refine lv_aload_n hx hb d_Md_execute_89 rfl (lv_at hl 3 rfl) ?_
          refine va_get (D := D) (ci := 6) (v := .int (mmd_atC w46)) (C := R_Md) (T := F_Md) (N := 31) hx hb hts iw_Md hown hK.1 hP 0 rfl rfl 29 (by decide) (hts _ mw_456) (fun _ h => h) rfl d_Md_execute_90 ?_
          refine lv_iconst (v := (4 : Int32)) hx hb d_Md_execute_93 (by decide) ?_
          refine lv_icmp_ne (tgt := 104) hx hb d_Md_execute_94 (by first | rfl | decide) (fun h47 => ?_) (fun h47 => ?_)
          · have hw := hw.2 h47
            refine lv_iload_n hx hb d_Md_execute_104 rfl (lv_at hl 1 rfl) ?_
            refine va_put (D := D) (ci := 6) (v := .int v5) (ty := .int) (C := R_Md) (T := F_Md) (N := 31) hx hb hts iw_Md t_Md t_Md_ok n_Md hown hK.1 hP hD hS 0 rfl rfl 28 (by decide) (hts _ mw_455) (fun _ h => h) rfl (t_Md_ok 28 (by decide)) rfl rfl (Nat.le_of_ble_eq_true rfl) d_Md_execute_105 (fun H locs hP hD hS => ?_)
            have hP := (congrArg (fun w => va_P D kmC w H) (sw_mmd_s_members cI cN cZ a1 w46 v5)).mp hP
            have hD := (congrArg (va_D A) (sw_mmd_s_members cI cN cZ a1 w46 v5)).mp hD
            obtain ⟨w48, ew48⟩ : ∃ z : MmdT, z = mmd_s_members w46 v5 := ⟨_, rfl⟩
            rw [← ew48] at hP hD
            have hw := hw w48 ew48
            refine lv_aload_n hx hb d_Md_execute_108 rfl (lv_at hl 3 rfl) ?_
            refine lv_aload_n hx hb d_Md_execute_109 rfl (lv_at hl 3 rfl) ?_
            refine va_get (D := D) (ci := 6) (v := .int (mmd_atC w48)) (C := R_Md) (T := F_Md) (N := 31) hx hb hts iw_Md hown hK.1 hP 0 rfl rfl 29 (by decide) (hts _ mw_456) (fun _ h => h) rfl d_Md_execute_110 ?_
            refine lv_iconst (v := (4 : Int32)) hx hb d_Md_execute_113 (by decide) ?_
            refine lv_icmp_ne (tgt := 124) hx hb d_Md_execute_114 (by first | rfl | decide) (fun h49 => ?_) (fun h49 => ?_)
            · have hw := hw.2 h49
              refine lv_iconst (v := (0 : Int32)) hx hb d_Md_execute_124 (by decide) ?_
              refine va_put (D := D) (ci := 6) (v := .int (0 : Int32)) (ty := .int) (C := R_Md) (T := F_Md) (N := 31) hx hb hts iw_Md t_Md t_Md_ok n_Md hown hK.1 hP hD hS 0 rfl rfl 30 (by decide) (hts _ mw_457) (fun _ h => h) rfl (t_Md_ok 30 (by decide)) rfl rfl (Nat.le_of_ble_eq_true rfl) d_Md_execute_125 (fun H locs hP hD hS => ?_)
              have hP := (congrArg (fun w => va_P D kmC w H) (sw_mmd_s_atE cI cN cZ a1 w48 (0 : Int32))).mp hP
              have hD := (congrArg (va_D A) (sw_mmd_s_atE cI cN cZ a1 w48 (0 : Int32))).mp hD
              obtain ⟨w50, ew50⟩ : ∃ z : MmdT, z = mmd_s_atE w48 (0 : Int32) := ⟨_, rfl⟩
              rw [← ew50] at hP hD
              have hw := hw w50 ew50
              refine lv_aload_n hx hb d_Md_execute_128 rfl (lv_at hl 3 rfl) ?_
              refine lv_aload_n hx hb d_Md_execute_129 rfl (lv_at hl 3 rfl) ?_
              refine va_get (D := D) (ci := 6) (v := .int (mmd_atC w50)) (C := R_Md) (T := F_Md) (N := 31) hx hb hts iw_Md hown hK.1 hP 0 rfl rfl 29 (by decide) (hts _ mw_456) (fun _ h => h) rfl d_Md_execute_130 ?_
              refine lv_iconst (v := (4 : Int32)) hx hb d_Md_execute_133 (by decide) ?_
              refine lv_icmp_ne (tgt := 141) hx hb d_Md_execute_134 (by first | rfl | decide) (fun h51 => ?_) (fun h51 => ?_)
              · have hw := hw.2 h51
                refine lv_aload_n hx hb d_Md_execute_141 rfl (lv_at hl 3 rfl) ?_
                refine va_get (D := D) (ci := 6) (v := .int (mmd_atC w50)) (C := R_Md) (T := F_Md) (N := 31) hx hb hts iw_Md hown hK.1 hP 0 rfl rfl 29 (by decide) (hts _ mw_456) (fun _ h => h) rfl d_Md_execute_142 ?_
                refine lv_iconst (v := (1 : Int32)) hx hb d_Md_execute_145 (by decide) ?_
                refine lv_iadd hx hb d_Md_execute_146 ?_
                refine va_put (D := D) (ci := 6) (v := .int ((mmd_atC w50) + (1 : Int32))) (ty := .int) (C := R_Md) (T := F_Md) (N := 31) hx hb hts iw_Md t_Md t_Md_ok n_Md hown hK.1 hP hD hS 0 rfl rfl 29 (by decide) (hts _ mw_456) (fun _ h => h) rfl (t_Md_ok 29 (by decide)) rfl rfl (Nat.le_of_ble_eq_true rfl) d_Md_execute_147 (fun H locs hP hD hS => ?_)
                have hP := (congrArg (fun w => va_P D kmC w H) (sw_mmd_s_atC cI cN cZ a1 w50 ((mmd_atC w50) + (1 : Int32)))).mp hP
                have hD := (congrArg (va_D A) (sw_mmd_s_atC cI cN cZ a1 w50 ((mmd_atC w50) + (1 : Int32)))).mp hD
                obtain ⟨w52, ew52⟩ : ∃ z : MmdT, z = mmd_s_atC w50 ((mmd_atC w50) + (1 : Int32)) := ⟨_, rfl⟩
                rw [← ew52] at hP hD
                have hw := hw w52 ew52
                exact W.vret hx hb hr (fun t ht hW => ⟨⟨w52, rfl, hw, by rw [ht]; exact hP, hD⟩, hS.F ht⟩) hS.2.2 d_Md_execute_150
              · have hw := hw.1 h51
                refine lv_iconst (v := (4 : Int32)) hx hb d_Md_execute_137 (by decide) ?_
                refine lv_goto (tgt := 147) hx hb d_Md_execute_138 (by first | rfl | decide) ?_
                refine va_put (D := D) (ci := 6) (v := .int (4 : Int32)) (ty := .int) (C := R_Md) (T := F_Md) (N := 31) hx hb hts iw_Md t_Md t_Md_ok n_Md hown hK.1 hP hD hS 0 rfl rfl 29 (by decide) (hts _ mw_456) (fun _ h => h) rfl (t_Md_ok 29 (by decide)) rfl rfl (Nat.le_of_ble_eq_true rfl) d_Md_execute_147 (fun H locs hP hD hS => ?_)
                have hP := (congrArg (fun w => va_P D kmC w H) (sw_mmd_s_atC cI cN cZ a1 w50 (4 : Int32))).mp hP
                have hD := (congrArg (va_D A) (sw_mmd_s_atC cI cN cZ a1 w50 (4 : Int32))).mp hD
                obtain ⟨w53, ew53⟩ : ∃ z : MmdT, z = mmd_s_atC w50 (4 : Int32) := ⟨_, rfl⟩
                rw [← ew53] at hP hD
                have hw := hw w53 ew53
                exact W.vret hx hb hr (fun t ht hW => ⟨⟨w53, rfl, hw, by rw [ht]; exact hP, hD⟩, hS.F ht⟩) hS.2.2 d_Md_execute_150
            · have hw := hw.1 h49
              refine lv_aload_n hx hb d_Md_execute_117 rfl (lv_at hl 3 rfl) ?_
              refine va_get (D := D) (ci := 6) (v := .int (mmd_atE w48)) (C := R_Md) (T := F_Md) (N := 31) hx hb hts iw_Md hown hK.1 hP 0 rfl rfl 30 (by decide) (hts _ mw_457) (fun _ h => h) rfl d_Md_execute_118 ?_
              refine lv_goto (tgt := 125) hx hb d_Md_execute_121 (by first | rfl | decide) ?_
              refine va_put (D := D) (ci := 6) (v := .int (mmd_atE w48)) (ty := .int) (C := R_Md) (T := F_Md) (N := 31) hx hb hts iw_Md t_Md t_Md_ok n_Md hown hK.1 hP hD hS 0 rfl rfl 30 (by decide) (hts _ mw_457) (fun _ h => h) rfl (t_Md_ok 30 (by decide)) rfl rfl (Nat.le_of_ble_eq_true rfl) d_Md_execute_125 (fun H locs hP hD hS => ?_)
              have hP := (congrArg (fun w => va_P D kmC w H) (sw_mmd_s_atE cI cN cZ a1 w48 (mmd_atE w48))).mp hP
              have hD := (congrArg (va_D A) (sw_mmd_s_atE cI cN cZ a1 w48 (mmd_atE w48))).mp hD
              obtain ⟨w54, ew54⟩ : ∃ z : MmdT, z = mmd_s_atE w48 (mmd_atE w48) := ⟨_, rfl⟩
              rw [← ew54] at hP hD
              have hw := hw w54 ew54
              refine lv_aload_n hx hb d_Md_execute_128 rfl (lv_at hl 3 rfl) ?_
              refine lv_aload_n hx hb d_Md_execute_129 rfl (lv_at hl 3 rfl) ?_
              refine va_get (D := D) (ci := 6) (v := .int (mmd_atC w54)) (C := R_Md) (T := F_Md) (N := 31) hx hb hts iw_Md hown hK.1 hP 0 rfl rfl 29 (by decide) (hts _ mw_456) (fun _ h => h) rfl d_Md_execute_130 ?_
              refine lv_iconst (v := (4 : Int32)) hx hb d_Md_execute_133 (by decide) ?_
              refine lv_icmp_ne (tgt := 141) hx hb d_Md_execute_134 (by first | rfl | decide) (fun h55 => ?_) (fun h55 => ?_)
              · have hw := hw.2 h55
                refine lv_aload_n hx hb d_Md_execute_141 rfl (lv_at hl 3 rfl) ?_
                refine va_get (D := D) (ci := 6) (v := .int (mmd_atC w54)) (C := R_Md) (T := F_Md) (N := 31) hx hb hts iw_Md hown hK.1 hP 0 rfl rfl 29 (by decide) (hts _ mw_456) (fun _ h => h) rfl d_Md_execute_142 ?_
                refine lv_iconst (v := (1 : Int32)) hx hb d_Md_execute_145 (by decide) ?_
                refine lv_iadd hx hb d_Md_execute_146 ?_
                refine va_put (D := D) (ci := 6) (v := .int ((mmd_atC w54) + (1 : Int32))) (ty := .int) (C := R_Md) (T := F_Md) (N := 31) hx hb hts iw_Md t_Md t_Md_ok n_Md hown hK.1 hP hD hS 0 rfl rfl 29 (by decide) (hts _ mw_456) (fun _ h => h) rfl (t_Md_ok 29 (by decide)) rfl rfl (Nat.le_of_ble_eq_true rfl) d_Md_execute_147 (fun H locs hP hD hS => ?_)
                have hP := (congrArg (fun w => va_P D kmC w H) (sw_mmd_s_atC cI cN cZ a1 w54 ((mmd_atC w54) + (1 : Int32)))).mp hP
                have hD := (congrArg (va_D A) (sw_mmd_s_atC cI cN cZ a1 w54 ((mmd_atC w54) + (1 : Int32)))).mp hD
                obtain ⟨w56, ew56⟩ : ∃ z : MmdT, z = mmd_s_atC w54 ((mmd_atC w54) + (1 : Int32)) := ⟨_, rfl⟩
                rw [← ew56] at hP hD
                have hw := hw w56 ew56
                exact W.vret hx hb hr (fun t ht hW => ⟨⟨w56, rfl, hw, by rw [ht]; exact hP, hD⟩, hS.F ht⟩) hS.2.2 d_Md_execute_150
              · have hw := hw.1 h55
                refine lv_iconst (v := (4 : Int32)) hx hb d_Md_execute_137 (by decide) ?_
                refine lv_goto (tgt := 147) hx hb d_Md_execute_138 (by first | rfl | decide) ?_
                refine va_put (D := D) (ci := 6) (v := .int (4 : Int32)) (ty := .int) (C := R_Md) (T := F_Md) (N := 31) hx hb hts iw_Md t_Md t_Md_ok n_Md hown hK.1 hP hD hS 0 rfl rfl 29 (by decide) (hts _ mw_456) (fun _ h => h) rfl (t_Md_ok 29 (by decide)) rfl rfl (Nat.le_of_ble_eq_true rfl) d_Md_execute_147 (fun H locs hP hD hS => ?_)
                have hP := (congrArg (fun w => va_P D kmC w H) (sw_mmd_s_atC cI cN cZ a1 w54 (4 : Int32))).mp hP
                have hD := (congrArg (va_D A) (sw_mmd_s_atC cI cN cZ a1 w54 (4 : Int32))).mp hD
                obtain ⟨w57, ew57⟩ : ∃ z : MmdT, z = mmd_s_atC w54 (4 : Int32) := ⟨_, rfl⟩
                rw [← ew57] at hP hD
                have hw := hw w57 ew57
                exact W.vret hx hb hr (fun t ht hW => ⟨⟨w57, rfl, hw, by rw [ht]; exact hP, hD⟩, hS.F ht⟩) hS.2.2 d_Md_execute_150
          · have hw := hw.1 h47
            refine lv_aload_n hx hb d_Md_execute_97 rfl (lv_at hl 3 rfl) ?_
            refine va_get (D := D) (ci := 6) (v := .int (mmd_members w46)) (C := R_Md) (T := F_Md) (N := 31) hx hb hts iw_Md hown hK.1 hP 0 rfl rfl 28 (by decide) (hts _ mw_455) (fun _ h => h) rfl d_Md_execute_98 ?_
            refine lv_goto (tgt := 105) hx hb d_Md_execute_101 (by first | rfl | decide) ?_
            refine va_put (D := D) (ci := 6) (v := .int (mmd_members w46)) (ty := .int) (C := R_Md) (T := F_Md) (N := 31) hx hb hts iw_Md t_Md t_Md_ok n_Md hown hK.1 hP hD hS 0 rfl rfl 28 (by decide) (hts _ mw_455) (fun _ h => h) rfl (t_Md_ok 28 (by decide)) rfl rfl (Nat.le_of_ble_eq_true rfl) d_Md_execute_105 (fun H locs hP hD hS => ?_)
            have hP := (congrArg (fun w => va_P D kmC w H) (sw_mmd_s_members cI cN cZ a1 w46 (mmd_members w46))).mp hP
            have hD := (congrArg (va_D A) (sw_mmd_s_members cI cN cZ a1 w46 (mmd_members w46))).mp hD
            obtain ⟨w58, ew58⟩ : ∃ z : MmdT, z = mmd_s_members w46 (mmd_members w46) := ⟨_, rfl⟩
            rw [← ew58] at hP hD
            have hw := hw w58 ew58
            refine lv_aload_n hx hb d_Md_execute_108 rfl (lv_at hl 3 rfl) ?_
            refine lv_aload_n hx hb d_Md_execute_109 rfl (lv_at hl 3 rfl) ?_
            refine va_get (D := D) (ci := 6) (v := .int (mmd_atC w58)) (C := R_Md) (T := F_Md) (N := 31) hx hb hts iw_Md hown hK.1 hP 0 rfl rfl 29 (by decide) (hts _ mw_456) (fun _ h => h) rfl d_Md_execute_110 ?_
            refine lv_iconst (v := (4 : Int32)) hx hb d_Md_execute_113 (by decide) ?_
            refine lv_icmp_ne (tgt := 124) hx hb d_Md_execute_114 (by first | rfl | decide) (fun h59 => ?_) (fun h59 => ?_)
            · have hw := hw.2 h59
              refine lv_iconst (v := (0 : Int32)) hx hb d_Md_execute_124 (by decide) ?_
              refine va_put (D := D) (ci := 6) (v := .int (0 : Int32)) (ty := .int) (C := R_Md) (T := F_Md) (N := 31) hx hb hts iw_Md t_Md t_Md_ok n_Md hown hK.1 hP hD hS 0 rfl rfl 30 (by decide) (hts _ mw_457) (fun _ h => h) rfl (t_Md_ok 30 (by decide)) rfl rfl (Nat.le_of_ble_eq_true rfl) d_Md_execute_125 (fun H locs hP hD hS => ?_)
              have hP := (congrArg (fun w => va_P D kmC w H) (sw_mmd_s_atE cI cN cZ a1 w58 (0 : Int32))).mp hP
              have hD := (congrArg (va_D A) (sw_mmd_s_atE cI cN cZ a1 w58 (0 : Int32))).mp hD
              obtain ⟨w60, ew60⟩ : ∃ z : MmdT, z = mmd_s_atE w58 (0 : Int32) := ⟨_, rfl⟩
              rw [← ew60] at hP hD
              have hw := hw w60 ew60
              refine lv_aload_n hx hb d_Md_execute_128 rfl (lv_at hl 3 rfl) ?_
              refine lv_aload_n hx hb d_Md_execute_129 rfl (lv_at hl 3 rfl) ?_
              refine va_get (D := D) (ci := 6) (v := .int (mmd_atC w60)) (C := R_Md) (T := F_Md) (N := 31) hx hb hts iw_Md hown hK.1 hP 0 rfl rfl 29 (by decide) (hts _ mw_456) (fun _ h => h) rfl d_Md_execute_130 ?_
              refine lv_iconst (v := (4 : Int32)) hx hb d_Md_execute_133 (by decide) ?_
              refine lv_icmp_ne (tgt := 141) hx hb d_Md_execute_134 (by first | rfl | decide) (fun h61 => ?_) (fun h61 => ?_)
              · have hw := hw.2 h61
                refine lv_aload_n hx hb d_Md_execute_141 rfl (lv_at hl 3 rfl) ?_
                refine va_get (D := D) (ci := 6) (v := .int (mmd_atC w60)) (C := R_Md) (T := F_Md) (N := 31) hx hb hts iw_Md hown hK.1 hP 0 rfl rfl 29 (by decide) (hts _ mw_456) (fun _ h => h) rfl d_Md_execute_142 ?_
                refine lv_iconst (v := (1 : Int32)) hx hb d_Md_execute_145 (by decide) ?_
                refine lv_iadd hx hb d_Md_execute_146 ?_
                refine va_put (D := D) (ci := 6) (v := .int ((mmd_atC w60) + (1 : Int32))) (ty := .int) (C := R_Md) (T := F_Md) (N := 31) hx hb hts iw_Md t_Md t_Md_ok n_Md hown hK.1 hP hD hS 0 rfl rfl 29 (by decide) (hts _ mw_456) (fun _ h => h) rfl (t_Md_ok 29 (by decide)) rfl rfl (Nat.le_of_ble_eq_true rfl) d_Md_execute_147 (fun H locs hP hD hS => ?_)
                have hP := (congrArg (fun w => va_P D kmC w H) (sw_mmd_s_atC cI cN cZ a1 w60 ((mmd_atC w60) + (1 : Int32)))).mp hP
                have hD := (congrArg (va_D A) (sw_mmd_s_atC cI cN cZ a1 w60 ((mmd_atC w60) + (1 : Int32)))).mp hD
                obtain ⟨w62, ew62⟩ : ∃ z : MmdT, z = mmd_s_atC w60 ((mmd_atC w60) + (1 : Int32)) := ⟨_, rfl⟩
                rw [← ew62] at hP hD
                have hw := hw w62 ew62
                exact W.vret hx hb hr (fun t ht hW => ⟨⟨w62, rfl, hw, by rw [ht]; exact hP, hD⟩, hS.F ht⟩) hS.2.2 d_Md_execute_150
              · have hw := hw.1 h61
                refine lv_iconst (v := (4 : Int32)) hx hb d_Md_execute_137 (by decide) ?_
                refine lv_goto (tgt := 147) hx hb d_Md_execute_138 (by first | rfl | decide) ?_
                refine va_put (D := D) (ci := 6) (v := .int (4 : Int32)) (ty := .int) (C := R_Md) (T := F_Md) (N := 31) hx hb hts iw_Md t_Md t_Md_ok n_Md hown hK.1 hP hD hS 0 rfl rfl 29 (by decide) (hts _ mw_456) (fun _ h => h) rfl (t_Md_ok 29 (by decide)) rfl rfl (Nat.le_of_ble_eq_true rfl) d_Md_execute_147 (fun H locs hP hD hS => ?_)
                have hP := (congrArg (fun w => va_P D kmC w H) (sw_mmd_s_atC cI cN cZ a1 w60 (4 : Int32))).mp hP
                have hD := (congrArg (va_D A) (sw_mmd_s_atC cI cN cZ a1 w60 (4 : Int32))).mp hD
                obtain ⟨w63, ew63⟩ : ∃ z : MmdT, z = mmd_s_atC w60 (4 : Int32) := ⟨_, rfl⟩
                rw [← ew63] at hP hD
                have hw := hw w63 ew63
                exact W.vret hx hb hr (fun t ht hW => ⟨⟨w63, rfl, hw, by rw [ht]; exact hP, hD⟩, hS.F ht⟩) hS.2.2 d_Md_execute_150
            · have hw := hw.1 h59
              refine lv_aload_n hx hb d_Md_execute_117 rfl (lv_at hl 3 rfl) ?_
              refine va_get (D := D) (ci := 6) (v := .int (mmd_atE w58)) (C := R_Md) (T := F_Md) (N := 31) hx hb hts iw_Md hown hK.1 hP 0 rfl rfl 30 (by decide) (hts _ mw_457) (fun _ h => h) rfl d_Md_execute_118 ?_
              refine lv_goto (tgt := 125) hx hb d_Md_execute_121 (by first | rfl | decide) ?_
              refine va_put (D := D) (ci := 6) (v := .int (mmd_atE w58)) (ty := .int) (C := R_Md) (T := F_Md) (N := 31) hx hb hts iw_Md t_Md t_Md_ok n_Md hown hK.1 hP hD hS 0 rfl rfl 30 (by decide) (hts _ mw_457) (fun _ h => h) rfl (t_Md_ok 30 (by decide)) rfl rfl (Nat.le_of_ble_eq_true rfl) d_Md_execute_125 (fun H locs hP hD hS => ?_)
              have hP := (congrArg (fun w => va_P D kmC w H) (sw_mmd_s_atE cI cN cZ a1 w58 (mmd_atE w58))).mp hP
              have hD := (congrArg (va_D A) (sw_mmd_s_atE cI cN cZ a1 w58 (mmd_atE w58))).mp hD
              obtain ⟨w64, ew64⟩ : ∃ z : MmdT, z = mmd_s_atE w58 (mmd_atE w58) := ⟨_, rfl⟩
              rw [← ew64] at hP hD
              have hw := hw w64 ew64
              refine lv_aload_n hx hb d_Md_execute_128 rfl (lv_at hl 3 rfl) ?_
              refine lv_aload_n hx hb d_Md_execute_129 rfl (lv_at hl 3 rfl) ?_
              refine va_get (D := D) (ci := 6) (v := .int (mmd_atC w64)) (C := R_Md) (T := F_Md) (N := 31) hx hb hts iw_Md hown hK.1 hP 0 rfl rfl 29 (by decide) (hts _ mw_456) (fun _ h => h) rfl d_Md_execute_130 ?_
              refine lv_iconst (v := (4 : Int32)) hx hb d_Md_execute_133 (by decide) ?_
              refine lv_icmp_ne (tgt := 141) hx hb d_Md_execute_134 (by first | rfl | decide) (fun h65 => ?_) (fun h65 => ?_)
              · have hw := hw.2 h65
                refine lv_aload_n hx hb d_Md_execute_141 rfl (lv_at hl 3 rfl) ?_
                refine va_get (D := D) (ci := 6) (v := .int (mmd_atC w64)) (C := R_Md) (T := F_Md) (N := 31) hx hb hts iw_Md hown hK.1 hP 0 rfl rfl 29 (by decide) (hts _ mw_456) (fun _ h => h) rfl d_Md_execute_142 ?_
                refine lv_iconst (v := (1 : Int32)) hx hb d_Md_execute_145 (by decide) ?_
                refine lv_iadd hx hb d_Md_execute_146 ?_
                refine va_put (D := D) (ci := 6) (v := .int ((mmd_atC w64) + (1 : Int32))) (ty := .int) (C := R_Md) (T := F_Md) (N := 31) hx hb hts iw_Md t_Md t_Md_ok n_Md hown hK.1 hP hD hS 0 rfl rfl 29 (by decide) (hts _ mw_456) (fun _ h => h) rfl (t_Md_ok 29 (by decide)) rfl rfl (Nat.le_of_ble_eq_true rfl) d_Md_execute_147 (fun H locs hP hD hS => ?_)
                have hP := (congrArg (fun w => va_P D kmC w H) (sw_mmd_s_atC cI cN cZ a1 w64 ((mmd_atC w64) + (1 : Int32)))).mp hP
                have hD := (congrArg (va_D A) (sw_mmd_s_atC cI cN cZ a1 w64 ((mmd_atC w64) + (1 : Int32)))).mp hD
                obtain ⟨w66, ew66⟩ : ∃ z : MmdT, z = mmd_s_atC w64 ((mmd_atC w64) + (1 : Int32)) := ⟨_, rfl⟩
                rw [← ew66] at hP hD
                have hw := hw w66 ew66
                exact W.vret hx hb hr (fun t ht hW => ⟨⟨w66, rfl, hw, by rw [ht]; exact hP, hD⟩, hS.F ht⟩) hS.2.2 d_Md_execute_150
              · have hw := hw.1 h65
                refine lv_iconst (v := (4 : Int32)) hx hb d_Md_execute_137 (by decide) ?_
                refine lv_goto (tgt := 147) hx hb d_Md_execute_138 (by first | rfl | decide) ?_
                refine va_put (D := D) (ci := 6) (v := .int (4 : Int32)) (ty := .int) (C := R_Md) (T := F_Md) (N := 31) hx hb hts iw_Md t_Md t_Md_ok n_Md hown hK.1 hP hD hS 0 rfl rfl 29 (by decide) (hts _ mw_456) (fun _ h => h) rfl (t_Md_ok 29 (by decide)) rfl rfl (Nat.le_of_ble_eq_true rfl) d_Md_execute_147 (fun H locs hP hD hS => ?_)
                have hP := (congrArg (fun w => va_P D kmC w H) (sw_mmd_s_atC cI cN cZ a1 w64 (4 : Int32))).mp hP
                have hD := (congrArg (va_D A) (sw_mmd_s_atC cI cN cZ a1 w64 (4 : Int32))).mp hD
                obtain ⟨w67, ew67⟩ : ∃ z : MmdT, z = mmd_s_atC w64 (4 : Int32) := ⟨_, rfl⟩
                rw [← ew67] at hP hD
                have hw := hw w67 ew67
                exact W.vret hx hb hr (fun t ht hW => ⟨⟨w67, rfl, hw, by rw [ht]; exact hP, hD⟩, hS.F ht⟩) hS.2.2 d_Md_execute_150
    · have hw := hw.2 h3
      exact W.vret hx hb hr (fun t ht hW => ⟨⟨w1, rfl, hw, by rw [ht]; exact hP, hD⟩, hS.F ht⟩) hS.2.2 d_Md_execute_24
set_option maxHeartbeats 4000000 in
set_option maxRecDepth 100000 in
theorem c_Md_replay (l : Launch) (D : va_G) (cI cN cZ : ClassId) (a1 : Nat → Nat) (z1 : MmdT) (x1 : Int32) (x2 : Int32) (post : MmdT → Prop) (hw : wp_Md_replay z1 x1 x2 post) : km_V l y_Md_replay (.code y_Md_replay b_Md_replay 4 none :: kmW) rm_Md_replay D kmC (kmT cI cN cZ) kmF kmM [.ref (a1 0), .int x1, .int x2] (mmdW cI cN cZ a1 z1) (fun (u : MmdT) => post u) (fun (u : MmdT) => (mmdW cI cN cZ a1 u)) 0 0 := by
  refine km_startV (cc := b_Md_replay) (maxL := 4) (ret := none) (by decide) rfl (Nat.le_of_ble_eq_true rfl) ?_
  intro p e s m below meth c A ls hE hA hK hP hD hS hl
  obtain ⟨hx, hb, hr, hml, hown, hts0, hlk, hnm⟩ := id hE
  have hts : ∀ w ∈ kmW, w.before ([.ref (a1 0), .int x1, .int x2] : List Value).toArray s = true := fun w h => hts0 w (List.mem_cons_of_mem _ h)
  have hP : va_P D kmC (mmdW cI cN cZ a1 z1) s.heap := hP
  have hl : lv_has ls 4 [(0, .ref (a1 0)), (1, .int x1), (2, .int x2)] := hl
  unfold wp_Md_replay at hw
  refine lv_iconst (v := (0 : Int32)) hx hb d_Md_replay_0 (by decide) ?_
  refine lv_istore_n (lv' := [(3, .int (0 : Int32)), (0, .ref (a1 0)), (1, .int x1), (2, .int x2)]) hx hb d_Md_replay_1 rfl hl (by decide) rfl (fun ls hl => ?_)
  have key2 : ∀ (K2 : Int32 → Int32 → Int32 → MmdT → Prop) (hk2 : ∀ (y1 : Int32) (y2 : Int32) (y3 : Int32) (z1 : MmdT) (ls : Array Slot) (H : Heap) (locs : List Loc), K2 y1 y2 y3 z1 → lv_has ls 4 [(1, .int y1), (2, .int y2), (3, .int y3), (0, .ref (a1 0))] → va_P D kmC (mmdW cI cN cZ a1 z1) H → va_D A (mmdW cI cN cZ a1 z1) → va_S A s.heap H locs → W p l e rm_Md_replay s m ([.ref (a1 0), .int x1, .int x2] : List Value).toArray below meth c H locs 0 0 (MQ below (va_Qv (fun (u : MmdT) => post u) (km_B D kmC A (fun (u : MmdT) => (mmdW cI cN cZ a1 u))) A) ([.ref (a1 0), .int x1, .int x2] : List Value).toArray s 0 0 A) (F0 m 20 ls [])) (n2 : Nat), ∀ (y1 : Int32) (y2 : Int32) (y3 : Int32) (z1 : MmdT) (ls : Array Slot) (H : Heap) (locs : List Loc), wp_Md_replay_L2 K2 n2 y1 y2 y3 z1 → lv_has ls 4 [(1, .int y1), (2, .int y2), (3, .int y3), (0, .ref (a1 0))] → va_P D kmC (mmdW cI cN cZ a1 z1) H → va_D A (mmdW cI cN cZ a1 z1) → va_S A s.heap H locs → W p l e rm_Md_replay s m ([.ref (a1 0), .int x1, .int x2] : List Value).toArray below meth c H locs 0 0 (MQ below (va_Qv (fun (u : MmdT) => post u) (km_B D kmC A (fun (u : MmdT) => (mmdW cI cN cZ a1 u))) A) ([.ref (a1 0), .int x1, .int x2] : List Value).toArray s 0 0 A) (F0 m 2 ls []) := by
    intro K2 hk2 n2
    induction n2 with
    | zero => intro y1 y2 y3 z1 ls H locs hw; exact hw.elim
    | succ n2 ih2 =>
      intro y1 y2 y3 z1 ls H locs hw hl hP hD hS
      refine lv_iload_n hx hb d_Md_replay_2 rfl (lv_at hl 2 rfl) ?_
      refine lv_iconst (v := (4 : Int32)) hx hb d_Md_replay_3 (by decide) ?_
      refine lv_icmp_ge (tgt := 20) hx hb d_Md_replay_4 (by first | rfl | decide) (fun h1 => ?_) (fun h1 => ?_)
      · have hw := hw.1 h1
        exact hk2 y1 y2 y3 z1 ls H locs hw (lv_sub hl [0, 1, 2, 3] rfl) hP hD hS
      · have hw := hw.2 h1
        refine lv_aload_n hx hb d_Md_replay_7 rfl (lv_at hl 3 rfl) ?_
        refine va_get (D := D) (ci := 6) (v := .ref (a1 23)) (C := R_Md) (T := F_Md) (N := 31) hx hb hts iw_Md hown hK.1 hP 0 rfl rfl 25 (by decide) (hts _ mw_452) (fun _ h => h) rfl d_Md_replay_8 ?_
        refine lv_iload_n hx hb d_Md_replay_11 rfl (lv_at hl 2 rfl) ?_
        refine lv_iconst (v := (0 : Int32)) hx hb d_Md_replay_12 (by decide) ?_
        obtain ⟨hin, hw⟩ := hw
        refine va_iast (f := (mmd_values z1)) hx hb hK.1 hP hD hS 23 0 rfl rfl hin d_Md_replay_13 (fun H locs hP hD hS => ?_)
        have hP := (congrArg (fun w => va_P D kmC w H) (sw_mmd_s_values cI cN cZ a1 z1 (upd (mmd_values z1) (y3).toNatClampNeg (0 : Int32)))).mp hP
        have hD := (congrArg (va_D A) (sw_mmd_s_values cI cN cZ a1 z1 (upd (mmd_values z1) (y3).toNatClampNeg (0 : Int32)))).mp hD
        obtain ⟨w2, ew2⟩ : ∃ z : MmdT, z = mmd_s_values z1 (upd (mmd_values z1) (y3).toNatClampNeg (0 : Int32)) := ⟨_, rfl⟩
        rw [← ew2] at hP hD
        have hw := hw w2 ew2
        obtain ⟨v3, ev3⟩ : ∃ z : Int32, z = (y3 + (1 : Int32)) := ⟨_, rfl⟩
        have hw := hw v3 ev3
        refine lv_iinc (v := v3) (lv' := [(3, .int v3), (1, .int y1), (2, .int y2), (0, .ref (a1 0))]) hx hb d_Md_replay_14 hl (k := 2) rfl ev3.symm (by decide) rfl (fun ls hl => ?_)
        refine lv_goto (tgt := 2) hx hb d_Md_replay_17 (by first | rfl | decide) ?_
        exact ih2 y1 y2 v3 w2 ls H locs hw (lv_sub hl [1, 2, 0, 3] rfl) hP hD hS
  obtain ⟨n2, hw⟩ := hw
  refine key2 _ (fun y1 y2 y3 z1 ls H locs hw hl hP hD hS => ?_) n2 x1 x2 (0 : Int32) z1 ls s.heap [] hw (lv_sub hl [2, 3, 0, 1] rfl) hP hD hS
  refine lv_iconst (v := (0 : Int32)) hx hb d_Md_replay_20 (by decide) ?_
  refine lv_istore_n (lv' := [(3, .int (0 : Int32)), (1, .int y1), (2, .int y2), (0, .ref (a1 0))]) hx hb d_Md_replay_21 rfl hl (by decide) rfl (fun ls hl => ?_)
  have key22 : ∀ (K22 : Int32 → Int32 → Int32 → MmdT → Prop) (hk22 : ∀ (y1 : Int32) (y2 : Int32) (y3 : Int32) (z1 : MmdT) (ls : Array Slot) (H : Heap) (locs : List Loc), K22 y1 y2 y3 z1 → lv_has ls 4 [(1, .int y1), (2, .int y2), (3, .int y3), (0, .ref (a1 0))] → va_P D kmC (mmdW cI cN cZ a1 z1) H → va_D A (mmdW cI cN cZ a1 z1) → va_S A s.heap H locs → W p l e rm_Md_replay s m ([.ref (a1 0), .int x1, .int x2] : List Value).toArray below meth c H locs 0 0 (MQ below (va_Qv (fun (u : MmdT) => post u) (km_B D kmC A (fun (u : MmdT) => (mmdW cI cN cZ a1 u))) A) ([.ref (a1 0), .int x1, .int x2] : List Value).toArray s 0 0 A) (F0 m 48 ls [])) (n22 : Nat), ∀ (y1 : Int32) (y2 : Int32) (y3 : Int32) (z1 : MmdT) (ls : Array Slot) (H : Heap) (locs : List Loc), wp_Md_replay_L22 K22 n22 y1 y2 y3 z1 → lv_has ls 4 [(1, .int y1), (2, .int y2), (3, .int y3), (0, .ref (a1 0))] → va_P D kmC (mmdW cI cN cZ a1 z1) H → va_D A (mmdW cI cN cZ a1 z1) → va_S A s.heap H locs → W p l e rm_Md_replay s m ([.ref (a1 0), .int x1, .int x2] : List Value).toArray below meth c H locs 0 0 (MQ below (va_Qv (fun (u : MmdT) => post u) (km_B D kmC A (fun (u : MmdT) => (mmdW cI cN cZ a1 u))) A) ([.ref (a1 0), .int x1, .int x2] : List Value).toArray s 0 0 A) (F0 m 22 ls []) := by
    intro K22 hk22 n22
    induction n22 with
    | zero => intro y1 y2 y3 z1 ls H locs hw; exact hw.elim
    | succ n22 ih22 =>
      intro y1 y2 y3 z1 ls H locs hw hl hP hD hS
      refine lv_iload_n hx hb d_Md_replay_22 rfl (lv_at hl 2 rfl) ?_
      refine lv_bipush (v := (31 : Int32)) hx hb d_Md_replay_23 (by decide) ?_
      refine lv_icmp_ge (tgt := 48) hx hb d_Md_replay_25 (by first | rfl | decide) (fun h4 => ?_) (fun h4 => ?_)
      · have hw := hw.1 h4
        exact hk22 y1 y2 y3 z1 ls H locs hw (lv_sub hl [0, 1, 2, 3] rfl) hP hD hS
      · have hw := hw.2 h4
        refine lv_aload_n hx hb d_Md_replay_28 rfl (lv_at hl 3 rfl) ?_
        refine va_get (D := D) (ci := 6) (v := .ref (a1 24)) (C := R_Md) (T := F_Md) (N := 31) hx hb hts iw_Md hown hK.1 hP 0 rfl rfl 26 (by decide) (hts _ mw_453) (fun _ h => h) rfl d_Md_replay_29 ?_
        refine lv_iload_n hx hb d_Md_replay_32 rfl (lv_at hl 2 rfl) ?_
        refine lv_iconst (v := (0 : Int32)) hx hb d_Md_replay_33 (by decide) ?_
        obtain ⟨hin, hw⟩ := hw
        refine va_zast (f := (mmd_done z1)) hx hb hK.1 hP hD hS 24 2 rfl rfl hin d_Md_replay_34 (fun H locs hP hD hS => ?_)
        have hP := (congrArg (fun w => va_P D kmC w H) (sw_mmd_s_done cI cN cZ a1 z1 (upd (mmd_done z1) (y3).toNatClampNeg (vp_nar .boolean (0 : Int32))))).mp hP
        have hD := (congrArg (va_D A) (sw_mmd_s_done cI cN cZ a1 z1 (upd (mmd_done z1) (y3).toNatClampNeg (vp_nar .boolean (0 : Int32))))).mp hD
        obtain ⟨w5, ew5⟩ : ∃ z : MmdT, z = mmd_s_done z1 (upd (mmd_done z1) (y3).toNatClampNeg (vp_nar .boolean (0 : Int32))) := ⟨_, rfl⟩
        rw [← ew5] at hP hD
        have hw := hw w5 ew5
        refine lv_aload_n hx hb d_Md_replay_35 rfl (lv_at hl 3 rfl) ?_
        refine va_get (D := D) (ci := 6) (v := .ref (a1 25)) (C := R_Md) (T := F_Md) (N := 31) hx hb hts iw_Md hown hK.1 hP 0 rfl rfl 27 (by decide) (hts _ mw_454) (fun _ h => h) rfl d_Md_replay_36 ?_
        refine lv_iload_n hx hb d_Md_replay_39 rfl (lv_at hl 2 rfl) ?_
        refine lv_iconst (v := (0 : Int32)) hx hb d_Md_replay_40 (by decide) ?_
        obtain ⟨hin, hw⟩ := hw
        refine va_iast (f := (mmd_answers w5)) hx hb hK.1 hP hD hS 25 0 rfl rfl hin d_Md_replay_41 (fun H locs hP hD hS => ?_)
        have hP := (congrArg (fun w => va_P D kmC w H) (sw_mmd_s_answers cI cN cZ a1 w5 (upd (mmd_answers w5) (y3).toNatClampNeg (0 : Int32)))).mp hP
        have hD := (congrArg (va_D A) (sw_mmd_s_answers cI cN cZ a1 w5 (upd (mmd_answers w5) (y3).toNatClampNeg (0 : Int32)))).mp hD
        obtain ⟨w6, ew6⟩ : ∃ z : MmdT, z = mmd_s_answers w5 (upd (mmd_answers w5) (y3).toNatClampNeg (0 : Int32)) := ⟨_, rfl⟩
        rw [← ew6] at hP hD
        have hw := hw w6 ew6
        obtain ⟨v7, ev7⟩ : ∃ z : Int32, z = (y3 + (1 : Int32)) := ⟨_, rfl⟩
        have hw := hw v7 ev7
        refine lv_iinc (v := v7) (lv' := [(3, .int v7), (1, .int y1), (2, .int y2), (0, .ref (a1 0))]) hx hb d_Md_replay_42 hl (k := 2) rfl ev7.symm (by decide) rfl (fun ls hl => ?_)
        refine lv_goto (tgt := 22) hx hb d_Md_replay_45 (by first | rfl | decide) ?_
        exact ih22 y1 y2 v7 w6 ls H locs hw (lv_sub hl [1, 2, 0, 3] rfl) hP hD hS
  obtain ⟨n22, hw⟩ := hw
  refine key22 _ (fun y1 y2 y3 z1 ls H locs hw hl hP hD hS => ?_) n22 y1 y2 (0 : Int32) z1 ls H locs hw (lv_sub hl [1, 2, 0, 3] rfl) hP hD hS
  refine lv_aload_n hx hb d_Md_replay_48 rfl (lv_at hl 3 rfl) ?_
  refine lv_bipush (v := (7 : Int32)) hx hb d_Md_replay_49 (by decide) ?_
  refine va_put (D := D) (ci := 6) (v := .int (7 : Int32)) (ty := .int) (C := R_Md) (T := F_Md) (N := 31) hx hb hts iw_Md t_Md t_Md_ok n_Md hown hK.1 hP hD hS 0 rfl rfl 28 (by decide) (hts _ mw_455) (fun _ h => h) rfl (t_Md_ok 28 (by decide)) rfl rfl (Nat.le_of_ble_eq_true rfl) d_Md_replay_51 (fun H locs hP hD hS => ?_)
  have hP := (congrArg (fun w => va_P D kmC w H) (sw_mmd_s_members cI cN cZ a1 z1 (7 : Int32))).mp hP
  have hD := (congrArg (va_D A) (sw_mmd_s_members cI cN cZ a1 z1 (7 : Int32))).mp hD
  obtain ⟨w8, ew8⟩ : ∃ z : MmdT, z = mmd_s_members z1 (7 : Int32) := ⟨_, rfl⟩
  rw [← ew8] at hP hD
  have hw := hw w8 ew8
  refine lv_aload_n hx hb d_Md_replay_54 rfl (lv_at hl 3 rfl) ?_
  refine lv_iconst (v := (0 : Int32)) hx hb d_Md_replay_55 (by decide) ?_
  refine va_put (D := D) (ci := 6) (v := .int (0 : Int32)) (ty := .int) (C := R_Md) (T := F_Md) (N := 31) hx hb hts iw_Md t_Md t_Md_ok n_Md hown hK.1 hP hD hS 0 rfl rfl 29 (by decide) (hts _ mw_456) (fun _ h => h) rfl (t_Md_ok 29 (by decide)) rfl rfl (Nat.le_of_ble_eq_true rfl) d_Md_replay_56 (fun H locs hP hD hS => ?_)
  have hP := (congrArg (fun w => va_P D kmC w H) (sw_mmd_s_atC cI cN cZ a1 w8 (0 : Int32))).mp hP
  have hD := (congrArg (va_D A) (sw_mmd_s_atC cI cN cZ a1 w8 (0 : Int32))).mp hD
  obtain ⟨w9, ew9⟩ : ∃ z : MmdT, z = mmd_s_atC w8 (0 : Int32) := ⟨_, rfl⟩
  rw [← ew9] at hP hD
  have hw := hw w9 ew9
  refine lv_aload_n hx hb d_Md_replay_59 rfl (lv_at hl 3 rfl) ?_
  refine lv_iconst (v := (0 : Int32)) hx hb d_Md_replay_60 (by decide) ?_
  refine va_put (D := D) (ci := 6) (v := .int (0 : Int32)) (ty := .int) (C := R_Md) (T := F_Md) (N := 31) hx hb hts iw_Md t_Md t_Md_ok n_Md hown hK.1 hP hD hS 0 rfl rfl 30 (by decide) (hts _ mw_457) (fun _ h => h) rfl (t_Md_ok 30 (by decide)) rfl rfl (Nat.le_of_ble_eq_true rfl) d_Md_replay_61 (fun H locs hP hD hS => ?_)
  have hP := (congrArg (fun w => va_P D kmC w H) (sw_mmd_s_atE cI cN cZ a1 w9 (0 : Int32))).mp hP
  have hD := (congrArg (va_D A) (sw_mmd_s_atE cI cN cZ a1 w9 (0 : Int32))).mp hD
  obtain ⟨w10, ew10⟩ : ∃ z : MmdT, z = mmd_s_atE w9 (0 : Int32) := ⟨_, rfl⟩
  rw [← ew10] at hP hD
  have hw := hw w10 ew10
  refine lv_iconst (v := (0 : Int32)) hx hb d_Md_replay_64 (by decide) ?_
  refine lv_istore_n (lv' := [(3, .int (0 : Int32)), (1, .int y1), (2, .int y2), (0, .ref (a1 0))]) hx hb d_Md_replay_65 rfl hl (by decide) rfl (fun ls hl => ?_)
  have key66 : ∀ (K66 : Int32 → Int32 → Int32 → MmdT → Prop) (hk66 : ∀ (y1 : Int32) (y2 : Int32) (y3 : Int32) (z1 : MmdT) (ls : Array Slot) (H : Heap) (locs : List Loc), K66 y1 y2 y3 z1 → lv_has ls 4 [(1, .int y1), (2, .int y2), (3, .int y3), (0, .ref (a1 0))] → va_P D kmC (mmdW cI cN cZ a1 z1) H → va_D A (mmdW cI cN cZ a1 z1) → va_S A s.heap H locs → W p l e rm_Md_replay s m ([.ref (a1 0), .int x1, .int x2] : List Value).toArray below meth c H locs 0 0 (MQ below (va_Qv (fun (u : MmdT) => post u) (km_B D kmC A (fun (u : MmdT) => (mmdW cI cN cZ a1 u))) A) ([.ref (a1 0), .int x1, .int x2] : List Value).toArray s 0 0 A) (F0 m 117 ls [])) (n66 : Nat), ∀ (y1 : Int32) (y2 : Int32) (y3 : Int32) (z1 : MmdT) (ls : Array Slot) (H : Heap) (locs : List Loc), wp_Md_replay_L66 K66 n66 y1 y2 y3 z1 → lv_has ls 4 [(1, .int y1), (2, .int y2), (3, .int y3), (0, .ref (a1 0))] → va_P D kmC (mmdW cI cN cZ a1 z1) H → va_D A (mmdW cI cN cZ a1 z1) → va_S A s.heap H locs → W p l e rm_Md_replay s m ([.ref (a1 0), .int x1, .int x2] : List Value).toArray below meth c H locs 0 0 (MQ below (va_Qv (fun (u : MmdT) => post u) (km_B D kmC A (fun (u : MmdT) => (mmdW cI cN cZ a1 u))) A) ([.ref (a1 0), .int x1, .int x2] : List Value).toArray s 0 0 A) (F0 m 66 ls []) := by
    intro K66 hk66 n66
    induction n66 with
    | zero => intro y1 y2 y3 z1 ls H locs hw; exact hw.elim
    | succ n66 ih66 =>
      intro y1 y2 y3 z1 ls H locs hw hl hP hD hS
      refine lv_iload_n hx hb d_Md_replay_66 rfl (lv_at hl 2 rfl) ?_
      refine lv_bipush (v := (41 : Int32)) hx hb d_Md_replay_67 (by decide) ?_
      refine lv_icmp_ge (tgt := 117) hx hb d_Md_replay_69 (by first | rfl | decide) (fun h11 => ?_) (fun h11 => ?_)
      · have hw := hw.1 h11
        exact hk66 y1 y2 y3 z1 ls H locs hw (lv_sub hl [0, 1, 2, 3] rfl) hP hD hS
      · have hw := hw.2 h11
        refine lv_aload_n hx hb d_Md_replay_72 rfl (lv_at hl 3 rfl) ?_
        refine va_get (D := D) (ci := 6) (v := .int (mmd_atC z1)) (C := R_Md) (T := F_Md) (N := 31) hx hb hts iw_Md hown hK.1 hP 0 rfl rfl 29 (by decide) (hts _ mw_456) (fun _ h => h) rfl d_Md_replay_73 ?_
        refine lv_iload_n hx hb d_Md_replay_76 rfl (lv_at hl 0 rfl) ?_
        refine lv_icmp_lt (tgt := 88) hx hb d_Md_replay_77 (by first | rfl | decide) (fun h12 => ?_) (fun h12 => ?_)
        · have hw := hw.1 h12
          refine lv_aload_n hx hb d_Md_replay_88 rfl (lv_at hl 3 rfl) ?_
          refine lv_aload_n hx hb d_Md_replay_89 rfl (lv_at hl 3 rfl) ?_
          refine va_get (D := D) (ci := 6) (v := .ref (a1 6)) (C := R_Md) (T := F_Md) (N := 31) hx hb hts iw_Md hown hK.1 hP 0 rfl rfl 7 (by decide) (hts _ mw_434) (fun _ h => h) rfl d_Md_replay_90 ?_
          refine lv_bipush (v := (9 : Int32)) hx hb d_Md_replay_93 (by decide) ?_
          refine lv_aload_n hx hb d_Md_replay_95 rfl (lv_at hl 3 rfl) ?_
          refine va_get (D := D) (ci := 6) (v := .int (mmd_atC z1)) (C := R_Md) (T := F_Md) (N := 31) hx hb hts iw_Md hown hK.1 hP 0 rfl rfl 29 (by decide) (hts _ mw_456) (fun _ h => h) rfl d_Md_replay_96 ?_
          refine lv_imul hx hb d_Md_replay_99 ?_
          refine lv_aload_n hx hb d_Md_replay_100 rfl (lv_at hl 3 rfl) ?_
          refine va_get (D := D) (ci := 6) (v := .int (mmd_atE z1)) (C := R_Md) (T := F_Md) (N := 31) hx hb hts iw_Md hown hK.1 hP 0 rfl rfl 30 (by decide) (hts _ mw_457) (fun _ h => h) rfl d_Md_replay_101 ?_
          refine lv_iadd hx hb d_Md_replay_104 ?_
          refine lv_iconst (v := (1 : Int32)) hx hb d_Md_replay_105 (by decide) ?_
          refine lv_iadd hx hb d_Md_replay_106 ?_
          obtain ⟨hin, hw⟩ := hw
          refine va_iald (f := (mmd_decided z1)) hx hb hK.1 hP 6 0 rfl rfl hin d_Md_replay_107 ?_
          refine km_cv (wr := []) (km_rV (n := 1) hE kmG (c_Md_execute l D cI cN cZ a1 z1 ((mmd_decided z1) (((((9 : Int32) * (mmd_atC z1)) + (mmd_atE z1)) + (1 : Int32))).toNatClampNeg) _ hw) mw_551 mw_548 mw_550 mp_32 mw_8 (by decide) ⟨rfl, rfl, ⟨by decide, by decide⟩, by decide, by decide⟩ hK (km_cut hP [0, 1, 2, 3, 4, 5, 6, 7, 8, 9, 10, 11, 12, 13, 14, 15, 16, 17, 18, 19, 20, 21, 22, 23, 24, 25] rfl) (hD.sub [0, 1, 2, 3, 4, 5, 6, 7, 8, 9, 10, 11, 12, 13, 14, 15, 16, 17, 18, 19, 20, 21, 22, 23, 24, 25] (by decide) rfl) (ci := 6) rfl hP (q0 := 0) rfl rfl hl.1 rfl (Nat.le_of_ble_eq_true rfl) d_Md_replay_108) hP hD hS hA [0, 1, 2, 3, 4, 5, 6, 7, 8, 9, 10, 11, 12, 13, 14, 15, 16, 17, 18, 19, 20, 21, 22, 23, 24, 25] [] rfl rfl (by decide) (by decide) (fun u14 H locs hw hP hD hS => ?_)
          have hP : va_P D kmC (mmdW cI cN cZ a1 u14) H := hP
          have hD : va_D A (mmdW cI cN cZ a1 u14) := hD
          obtain ⟨v15, ev15⟩ : ∃ z : Int32, z = (y3 + (1 : Int32)) := ⟨_, rfl⟩
          have hw := hw v15 ev15
          refine lv_iinc (v := v15) (lv' := [(3, .int v15), (1, .int y1), (2, .int y2), (0, .ref (a1 0))]) hx hb d_Md_replay_111 hl (k := 2) rfl ev15.symm (by decide) rfl (fun ls hl => ?_)
          refine lv_goto (tgt := 66) hx hb d_Md_replay_114 (by first | rfl | decide) ?_
          exact ih66 y1 y2 v15 u14 ls H locs hw (lv_sub hl [1, 2, 0, 3] rfl) hP hD hS
        · have hw := hw.2 h12
          refine lv_aload_n hx hb d_Md_replay_80 rfl (lv_at hl 3 rfl) ?_
          refine va_get (D := D) (ci := 6) (v := .int (mmd_atE z1)) (C := R_Md) (T := F_Md) (N := 31) hx hb hts iw_Md hown hK.1 hP 0 rfl rfl 30 (by decide) (hts _ mw_457) (fun _ h => h) rfl d_Md_replay_81 ?_
          refine lv_iload_n hx hb d_Md_replay_84 rfl (lv_at hl 1 rfl) ?_
          refine lv_icmp_ge (tgt := 117) hx hb d_Md_replay_85 (by first | rfl | decide) (fun h16 => ?_) (fun h16 => ?_)
          · have hw := hw.1 h16
            exact hk66 y1 y2 y3 z1 ls H locs hw (lv_sub hl [0, 1, 2, 3] rfl) hP hD hS
          · have hw := hw.2 h16
            refine lv_aload_n hx hb d_Md_replay_88 rfl (lv_at hl 3 rfl) ?_
            refine lv_aload_n hx hb d_Md_replay_89 rfl (lv_at hl 3 rfl) ?_
            refine va_get (D := D) (ci := 6) (v := .ref (a1 6)) (C := R_Md) (T := F_Md) (N := 31) hx hb hts iw_Md hown hK.1 hP 0 rfl rfl 7 (by decide) (hts _ mw_434) (fun _ h => h) rfl d_Md_replay_90 ?_
            refine lv_bipush (v := (9 : Int32)) hx hb d_Md_replay_93 (by decide) ?_
            refine lv_aload_n hx hb d_Md_replay_95 rfl (lv_at hl 3 rfl) ?_
            refine va_get (D := D) (ci := 6) (v := .int (mmd_atC z1)) (C := R_Md) (T := F_Md) (N := 31) hx hb hts iw_Md hown hK.1 hP 0 rfl rfl 29 (by decide) (hts _ mw_456) (fun _ h => h) rfl d_Md_replay_96 ?_
            refine lv_imul hx hb d_Md_replay_99 ?_
            refine lv_aload_n hx hb d_Md_replay_100 rfl (lv_at hl 3 rfl) ?_
            refine va_get (D := D) (ci := 6) (v := .int (mmd_atE z1)) (C := R_Md) (T := F_Md) (N := 31) hx hb hts iw_Md hown hK.1 hP 0 rfl rfl 30 (by decide) (hts _ mw_457) (fun _ h => h) rfl d_Md_replay_101 ?_
            refine lv_iadd hx hb d_Md_replay_104 ?_
            refine lv_iconst (v := (1 : Int32)) hx hb d_Md_replay_105 (by decide) ?_
            refine lv_iadd hx hb d_Md_replay_106 ?_
            obtain ⟨hin, hw⟩ := hw
            refine va_iald (f := (mmd_decided z1)) hx hb hK.1 hP 6 0 rfl rfl hin d_Md_replay_107 ?_
            refine km_cv (wr := []) (km_rV (n := 1) hE kmG (c_Md_execute l D cI cN cZ a1 z1 ((mmd_decided z1) (((((9 : Int32) * (mmd_atC z1)) + (mmd_atE z1)) + (1 : Int32))).toNatClampNeg) _ hw) mw_551 mw_548 mw_550 mp_32 mw_8 (by decide) ⟨rfl, rfl, ⟨by decide, by decide⟩, by decide, by decide⟩ hK (km_cut hP [0, 1, 2, 3, 4, 5, 6, 7, 8, 9, 10, 11, 12, 13, 14, 15, 16, 17, 18, 19, 20, 21, 22, 23, 24, 25] rfl) (hD.sub [0, 1, 2, 3, 4, 5, 6, 7, 8, 9, 10, 11, 12, 13, 14, 15, 16, 17, 18, 19, 20, 21, 22, 23, 24, 25] (by decide) rfl) (ci := 6) rfl hP (q0 := 0) rfl rfl hl.1 rfl (Nat.le_of_ble_eq_true rfl) d_Md_replay_108) hP hD hS hA [0, 1, 2, 3, 4, 5, 6, 7, 8, 9, 10, 11, 12, 13, 14, 15, 16, 17, 18, 19, 20, 21, 22, 23, 24, 25] [] rfl rfl (by decide) (by decide) (fun u18 H locs hw hP hD hS => ?_)
            have hP : va_P D kmC (mmdW cI cN cZ a1 u18) H := hP
            have hD : va_D A (mmdW cI cN cZ a1 u18) := hD
            obtain ⟨v19, ev19⟩ : ∃ z : Int32, z = (y3 + (1 : Int32)) := ⟨_, rfl⟩
            have hw := hw v19 ev19
            refine lv_iinc (v := v19) (lv' := [(3, .int v19), (1, .int y1), (2, .int y2), (0, .ref (a1 0))]) hx hb d_Md_replay_111 hl (k := 2) rfl ev19.symm (by decide) rfl (fun ls hl => ?_)
            refine lv_goto (tgt := 66) hx hb d_Md_replay_114 (by first | rfl | decide) ?_
            exact ih66 y1 y2 v19 u18 ls H locs hw (lv_sub hl [1, 2, 0, 3] rfl) hP hD hS
  obtain ⟨n66, hw⟩ := hw
  refine key66 _ (fun y1 y2 y3 z1 ls H locs hw hl hP hD hS => ?_) n66 y1 y2 (0 : Int32) w10 ls H locs hw (lv_sub hl [1, 2, 0, 3] rfl) hP hD hS
  exact W.vret hx hb hr (fun t ht hW => ⟨⟨z1, rfl, hw, by rw [ht]; exact hP, hD⟩, hS.F ht⟩) hS.2.2 d_Md_replay_117
set_option maxHeartbeats 4000000 in
set_option maxRecDepth 100000 in
theorem c_Md_replayOf (l : Launch) (D : va_G) (cI cN cZ : ClassId) (a1 : Nat → Nat) (z1 : MmdT) (x1 : Int32) (post : MmdT → Prop) (hw : wp_Md_replayOf z1 x1 post) : km_V l y_Md_replayOf (.code y_Md_replayOf b_Md_replayOf 2 none :: kmW) rm_Md_replayOf D kmC (kmT cI cN cZ) kmF kmM [.ref (a1 0), .int x1] (mmdW cI cN cZ a1 z1) (fun (u : MmdT) => post u) (fun (u : MmdT) => (mmdW cI cN cZ a1 u)) 0 0 := by
  refine km_startV (cc := b_Md_replayOf) (maxL := 2) (ret := none) (by decide) rfl (Nat.le_of_ble_eq_true rfl) ?_
  intro p e s m below meth c A ls hE hA hK hP hD hS hl
  obtain ⟨hx, hb, hr, hml, hown, hts0, hlk, hnm⟩ := id hE
  have hts : ∀ w ∈ kmW, w.before ([.ref (a1 0), .int x1] : List Value).toArray s = true := fun w h => hts0 w (List.mem_cons_of_mem _ h)
  have hP : va_P D kmC (mmdW cI cN cZ a1 z1) s.heap := hP
  have hl : lv_has ls 2 [(0, .ref (a1 0)), (1, .int x1)] := hl
  unfold wp_Md_replayOf at hw
  refine lv_aload_n hx hb d_Md_replayOf_0 rfl (lv_at hl 0 rfl) ?_
  refine lv_aload_n hx hb d_Md_replayOf_1 rfl (lv_at hl 0 rfl) ?_
  refine va_get (D := D) (ci := 6) (v := .ref (a1 7)) (C := R_Md) (T := F_Md) (N := 31) hx hb hts iw_Md hown hK.1 hP 0 rfl rfl 9 (by decide) (hts _ mw_436) (fun _ h => h) rfl d_Md_replayOf_2 ?_
  refine lv_iload_n hx hb d_Md_replayOf_5 rfl (lv_at hl 1 rfl) ?_
  obtain ⟨hin, hw⟩ := hw
  refine va_iald (f := (mmd_configuration z1)) hx hb hK.1 hP 7 0 rfl rfl hin d_Md_replayOf_6 ?_
  refine lv_aload_n hx hb d_Md_replayOf_7 rfl (lv_at hl 0 rfl) ?_
  refine va_get (D := D) (ci := 6) (v := .ref (a1 8)) (C := R_Md) (T := F_Md) (N := 31) hx hb hts iw_Md hown hK.1 hP 0 rfl rfl 10 (by decide) (hts _ mw_437) (fun _ h => h) rfl d_Md_replayOf_8 ?_
  refine lv_iload_n hx hb d_Md_replayOf_11 rfl (lv_at hl 1 rfl) ?_
  obtain ⟨hin, hw⟩ := hw
  refine va_iald (f := (mmd_executed z1)) hx hb hK.1 hP 8 0 rfl rfl hin d_Md_replayOf_12 ?_
  refine km_cv (wr := []) (km_rV (n := 2) hE kmG (c_Md_replay l D cI cN cZ a1 z1 ((mmd_configuration z1) (x1).toNatClampNeg) ((mmd_executed z1) (x1).toNatClampNeg) _ hw) mw_547 mw_544 mw_546 mp_31 mw_8 (by decide) ⟨rfl, rfl, ⟨by decide, by decide⟩, by decide, by decide⟩ hK (km_cut hP [0, 1, 2, 3, 4, 5, 6, 7, 8, 9, 10, 11, 12, 13, 14, 15, 16, 17, 18, 19, 20, 21, 22, 23, 24, 25] rfl) (hD.sub [0, 1, 2, 3, 4, 5, 6, 7, 8, 9, 10, 11, 12, 13, 14, 15, 16, 17, 18, 19, 20, 21, 22, 23, 24, 25] (by decide) rfl) (ci := 6) rfl hP (q0 := 0) rfl rfl hl.1 rfl (Nat.le_of_ble_eq_true rfl) d_Md_replayOf_13) hP hD hS hA [0, 1, 2, 3, 4, 5, 6, 7, 8, 9, 10, 11, 12, 13, 14, 15, 16, 17, 18, 19, 20, 21, 22, 23, 24, 25] [] rfl rfl (by decide) (by decide) (fun u2 H locs hw hP hD hS => ?_)
  have hP : va_P D kmC (mmdW cI cN cZ a1 u2) H := hP
  have hD : va_D A (mmdW cI cN cZ a1 u2) := hD
  exact W.vret hx hb hr (fun t ht hW => ⟨⟨u2, rfl, hw, by rw [ht]; exact hP, hD⟩, hS.F ht⟩) hS.2.2 d_Md_replayOf_16
set_option maxHeartbeats 4000000 in
set_option maxRecDepth 100000 in
theorem c_Md_membersOf (l : Launch) (D : va_G) (cI cN cZ : ClassId) (a1 : Nat → Nat) (z1 : MmdT) (x1 : Int32) (post : Int32 → MmdT → Prop) (hw : wp_Md_membersOf z1 x1 post) : km_I l y_Md_membersOf (.code y_Md_membersOf b_Md_membersOf 2 (some .int) :: kmW) rm_Md_membersOf D kmC (kmT cI cN cZ) kmF kmM [.ref (a1 0), .int x1] (mmdW cI cN cZ a1 z1) (fun (r : Int32) (u : MmdT) => post r u) (fun (u : MmdT) => (mmdW cI cN cZ a1 u)) 0 0 := by
  refine km_startI (cc := b_Md_membersOf) (maxL := 2) (ret := (some .int)) (by decide) rfl (Nat.le_of_ble_eq_true rfl) ?_
  intro p e s m below meth c A ls hE hA hK hP hD hS hl
  obtain ⟨hx, hb, hr, hml, hown, hts0, hlk, hnm⟩ := id hE
  have hts : ∀ w ∈ kmW, w.before ([.ref (a1 0), .int x1] : List Value).toArray s = true := fun w h => hts0 w (List.mem_cons_of_mem _ h)
  have hP : va_P D kmC (mmdW cI cN cZ a1 z1) s.heap := hP
  have hl : lv_has ls 2 [(0, .ref (a1 0)), (1, .int x1)] := hl
  unfold wp_Md_membersOf at hw
  refine lv_aload_n hx hb d_Md_membersOf_0 rfl (lv_at hl 0 rfl) ?_
  refine lv_iload_n hx hb d_Md_membersOf_1 rfl (lv_at hl 1 rfl) ?_
  refine km_cv (wr := []) (km_rV (n := 1) hE kmG (c_Md_replayOf l D cI cN cZ a1 z1 x1 _ hw) mw_543 mw_540 mw_542 mp_30 mw_8 (by decide) ⟨rfl, rfl, ⟨by decide, by decide⟩, by decide, by decide⟩ hK (km_cut hP [0, 1, 2, 3, 4, 5, 6, 7, 8, 9, 10, 11, 12, 13, 14, 15, 16, 17, 18, 19, 20, 21, 22, 23, 24, 25] rfl) (hD.sub [0, 1, 2, 3, 4, 5, 6, 7, 8, 9, 10, 11, 12, 13, 14, 15, 16, 17, 18, 19, 20, 21, 22, 23, 24, 25] (by decide) rfl) (ci := 6) rfl hP (q0 := 0) rfl rfl hl.1 rfl (Nat.le_of_ble_eq_true rfl) d_Md_membersOf_2) hP hD hS hA [0, 1, 2, 3, 4, 5, 6, 7, 8, 9, 10, 11, 12, 13, 14, 15, 16, 17, 18, 19, 20, 21, 22, 23, 24, 25] [] rfl rfl (by decide) (by decide) (fun u2 H locs hw hP hD hS => ?_)
  have hP : va_P D kmC (mmdW cI cN cZ a1 u2) H := hP
  have hD : va_D A (mmdW cI cN cZ a1 u2) := hD
  refine lv_aload_n hx hb d_Md_membersOf_5 rfl (lv_at hl 0 rfl) ?_
  refine va_get (D := D) (ci := 6) (v := .int (mmd_members u2)) (C := R_Md) (T := F_Md) (N := 31) hx hb hts iw_Md hown hK.1 hP 0 rfl rfl 28 (by decide) (hts _ mw_455) (fun _ h => h) rfl d_Md_membersOf_6 ?_
  exact W.iret (v := (mmd_members u2)) hx hb hr (fun t ht hW => ⟨⟨(mmd_members u2), u2, rfl, hw, by rw [ht]; exact hP, hD⟩, hS.F ht⟩) hS.2.2 d_Md_membersOf_9
