theorem d_Md_majority_0 : decode b_Md_majority 0 = .ok (.aload_n 0, 1) := by decide +kernel
theorem d_Md_majority_1 : decode b_Md_majority 1 = .ok (.iload_n 2, 1) := by decide +kernel
theorem d_Md_majority_2 : decode b_Md_majority 2 = .ok (.invokevirtual 110, 3) := by decide +kernel
theorem d_Md_majority_5 : decode b_Md_majority 5 = .ok (.istore_n 3, 1) := by decide +kernel
theorem d_Md_majority_6 : decode b_Md_majority 6 = .ok (.iconst 2, 1) := by decide +kernel
theorem d_Md_majority_7 : decode b_Md_majority 7 = .ok (.iload_n 1, 1) := by decide +kernel
theorem d_Md_majority_8 : decode b_Md_majority 8 = .ok (.iload_n 3, 1) := by decide +kernel
theorem d_Md_majority_9 : decode b_Md_majority 9 = .ok (.iand, 1) := by decide +kernel
theorem d_Md_majority_10 : decode b_Md_majority 10 = .ok (.invokestatic 114, 3) := by decide +kernel
theorem d_Md_majority_13 : decode b_Md_majority 13 = .ok (.imul, 1) := by decide +kernel
theorem d_Md_majority_14 : decode b_Md_majority 14 = .ok (.iload_n 3, 1) := by decide +kernel
theorem d_Md_majority_15 : decode b_Md_majority 15 = .ok (.invokestatic 114, 3) := by decide +kernel
theorem d_Md_majority_18 : decode b_Md_majority 18 = .ok (.if_icmp .le 7, 3) := by decide +kernel
theorem d_Md_majority_21 : decode b_Md_majority 21 = .ok (.iconst 1, 1) := by decide +kernel
theorem d_Md_majority_22 : decode b_Md_majority 22 = .ok (.goto 4, 3) := by decide +kernel
theorem d_Md_majority_25 : decode b_Md_majority 25 = .ok (.iconst 0, 1) := by decide +kernel
theorem d_Md_majority_26 : decode b_Md_majority 26 = .ok (.ireturn, 1) := by decide +kernel
theorem d_Md_hear_0 : decode b_Md_hear 0 = .ok (.aload_n 0, 1) := by decide +kernel
theorem d_Md_hear_1 : decode b_Md_hear 1 = .ok (.getfield 19, 3) := by decide +kernel
theorem d_Md_hear_4 : decode b_Md_hear 4 = .ok (.iload_n 1, 1) := by decide +kernel
theorem d_Md_hear_5 : decode b_Md_hear 5 = .ok (.dup2, 1) := by decide +kernel
theorem d_Md_hear_6 : decode b_Md_hear 6 = .ok (.iaload, 1) := by decide +kernel
theorem d_Md_hear_7 : decode b_Md_hear 7 = .ok (.iconst 1, 1) := by decide +kernel
theorem d_Md_hear_8 : decode b_Md_hear 8 = .ok (.iadd, 1) := by decide +kernel
theorem d_Md_hear_9 : decode b_Md_hear 9 = .ok (.iastore, 1) := by decide +kernel
theorem d_Md_hear_10 : decode b_Md_hear 10 = .ok (.aload_n 0, 1) := by decide +kernel
theorem d_Md_hear_11 : decode b_Md_hear 11 = .ok (.getfield 22, 3) := by decide +kernel
theorem d_Md_hear_14 : decode b_Md_hear 14 = .ok (.iload_n 1, 1) := by decide +kernel
theorem d_Md_hear_15 : decode b_Md_hear 15 = .ok (.aload_n 0, 1) := by decide +kernel
theorem d_Md_hear_16 : decode b_Md_hear 16 = .ok (.getfield 87, 3) := by decide +kernel
theorem d_Md_hear_19 : decode b_Md_hear 19 = .ok (.iload_n 1, 1) := by decide +kernel
theorem d_Md_hear_20 : decode b_Md_hear 20 = .ok (.iaload, 1) := by decide +kernel
theorem d_Md_hear_21 : decode b_Md_hear 21 = .ok (.iastore, 1) := by decide +kernel
theorem d_Md_hear_22 : decode b_Md_hear 22 = .ok (.return_, 1) := by decide +kernel
theorem d_Md_isUp_0 : decode b_Md_isUp 0 = .ok (.iload_n 1, 1) := by decide +kernel
theorem d_Md_isUp_1 : decode b_Md_isUp 1 = .ok (.invokestatic 117, 3) := by decide +kernel
theorem d_Md_isUp_4 : decode b_Md_isUp 4 = .ok (.ifCond .eq 19, 3) := by decide +kernel
theorem d_Md_isUp_7 : decode b_Md_isUp 7 = .ok (.aload_n 0, 1) := by decide +kernel
theorem d_Md_isUp_8 : decode b_Md_isUp 8 = .ok (.getfield 28, 3) := by decide +kernel
theorem d_Md_isUp_11 : decode b_Md_isUp 11 = .ok (.iload_n 1, 1) := by decide +kernel
theorem d_Md_isUp_12 : decode b_Md_isUp 12 = .ok (.ishr, 1) := by decide +kernel
theorem d_Md_isUp_13 : decode b_Md_isUp 13 = .ok (.iconst 1, 1) := by decide +kernel
theorem d_Md_isUp_14 : decode b_Md_isUp 14 = .ok (.iand, 1) := by decide +kernel
theorem d_Md_isUp_15 : decode b_Md_isUp 15 = .ok (.iconst 1, 1) := by decide +kernel
theorem d_Md_isUp_16 : decode b_Md_isUp 16 = .ok (.if_icmp .ne 7, 3) := by decide +kernel
theorem d_Md_isUp_19 : decode b_Md_isUp 19 = .ok (.iconst 1, 1) := by decide +kernel
theorem d_Md_isUp_20 : decode b_Md_isUp 20 = .ok (.goto 4, 3) := by decide +kernel
theorem d_Md_isUp_23 : decode b_Md_isUp 23 = .ok (.iconst 0, 1) := by decide +kernel
theorem d_Md_isUp_24 : decode b_Md_isUp 24 = .ok (.ireturn, 1) := by decide +kernel
theorem d_Md_knows_0 : decode b_Md_knows 0 = .ok (.aload_n 0, 1) := by decide +kernel
theorem d_Md_knows_1 : decode b_Md_knows 1 = .ok (.getfield 38, 3) := by decide +kernel
theorem d_Md_knows_4 : decode b_Md_knows 4 = .ok (.iload_n 1, 1) := by decide +kernel
theorem d_Md_knows_5 : decode b_Md_knows 5 = .ok (.iaload, 1) := by decide +kernel
theorem d_Md_knows_6 : decode b_Md_knows 6 = .ok (.iload_n 2, 1) := by decide +kernel
theorem d_Md_knows_7 : decode b_Md_knows 7 = .ok (.ishr, 1) := by decide +kernel
theorem d_Md_knows_8 : decode b_Md_knows 8 = .ok (.iconst 1, 1) := by decide +kernel
theorem d_Md_knows_9 : decode b_Md_knows 9 = .ok (.iand, 1) := by decide +kernel
theorem d_Md_knows_10 : decode b_Md_knows 10 = .ok (.iconst 1, 1) := by decide +kernel
theorem d_Md_knows_11 : decode b_Md_knows 11 = .ok (.if_icmp .ne 7, 3) := by decide +kernel
theorem d_Md_knows_14 : decode b_Md_knows 14 = .ok (.iconst 1, 1) := by decide +kernel
theorem d_Md_knows_15 : decode b_Md_knows 15 = .ok (.goto 4, 3) := by decide +kernel
theorem d_Md_knows_18 : decode b_Md_knows 18 = .ok (.iconst 0, 1) := by decide +kernel
theorem d_Md_knows_19 : decode b_Md_knows 19 = .ok (.ireturn, 1) := by decide +kernel
theorem d_Md_goOn_0 : decode b_Md_goOn 0 = .ok (.aload_n 0, 1) := by decide +kernel
theorem d_Md_goOn_1 : decode b_Md_goOn 1 = .ok (.getfield 35, 3) := by decide +kernel
theorem d_Md_goOn_4 : decode b_Md_goOn 4 = .ok (.iload_n 1, 1) := by decide +kernel
theorem d_Md_goOn_5 : decode b_Md_goOn 5 = .ok (.iaload, 1) := by decide +kernel
theorem d_Md_goOn_6 : decode b_Md_goOn 6 = .ok (.bipush 8, 2) := by decide +kernel
theorem d_Md_goOn_8 : decode b_Md_goOn 8 = .ok (.if_icmp .ge 127, 3) := by decide +kernel
theorem d_Md_goOn_11 : decode b_Md_goOn 11 = .ok (.aload_n 0, 1) := by decide +kernel
theorem d_Md_goOn_12 : decode b_Md_goOn 12 = .ok (.iload_n 1, 1) := by decide +kernel
theorem d_Md_goOn_13 : decode b_Md_goOn 13 = .ok (.aload_n 0, 1) := by decide +kernel
theorem d_Md_goOn_14 : decode b_Md_goOn 14 = .ok (.getfield 35, 3) := by decide +kernel
theorem d_Md_goOn_17 : decode b_Md_goOn 17 = .ok (.iload_n 1, 1) := by decide +kernel
theorem d_Md_goOn_18 : decode b_Md_goOn 18 = .ok (.iaload, 1) := by decide +kernel
theorem d_Md_goOn_19 : decode b_Md_goOn 19 = .ok (.iconst 1, 1) := by decide +kernel
theorem d_Md_goOn_20 : decode b_Md_goOn 20 = .ok (.iadd, 1) := by decide +kernel
theorem d_Md_goOn_21 : decode b_Md_goOn 21 = .ok (.invokevirtual 121, 3) := by decide +kernel
theorem d_Md_goOn_24 : decode b_Md_goOn 24 = .ok (.ifCond .eq 111, 3) := by decide +kernel
theorem d_Md_goOn_27 : decode b_Md_goOn 27 = .ok (.aload_n 0, 1) := by decide +kernel
theorem d_Md_goOn_28 : decode b_Md_goOn 28 = .ok (.iload_n 1, 1) := by decide +kernel
theorem d_Md_goOn_29 : decode b_Md_goOn 29 = .ok (.invokevirtual 107, 3) := by decide +kernel
theorem d_Md_goOn_32 : decode b_Md_goOn 32 = .ok (.aload_n 0, 1) := by decide +kernel
theorem d_Md_goOn_33 : decode b_Md_goOn 33 = .ok (.aload_n 0, 1) := by decide +kernel
theorem d_Md_goOn_34 : decode b_Md_goOn 34 = .ok (.getfield 25, 3) := by decide +kernel
theorem d_Md_goOn_37 : decode b_Md_goOn 37 = .ok (.bipush 9, 2) := by decide +kernel
theorem d_Md_goOn_39 : decode b_Md_goOn 39 = .ok (.aload_n 0, 1) := by decide +kernel
theorem d_Md_goOn_40 : decode b_Md_goOn 40 = .ok (.getfield 93, 3) := by decide +kernel
theorem d_Md_goOn_43 : decode b_Md_goOn 43 = .ok (.imul, 1) := by decide +kernel
theorem d_Md_goOn_44 : decode b_Md_goOn 44 = .ok (.aload_n 0, 1) := by decide +kernel
theorem d_Md_goOn_45 : decode b_Md_goOn 45 = .ok (.getfield 90, 3) := by decide +kernel
theorem d_Md_goOn_48 : decode b_Md_goOn 48 = .ok (.iadd, 1) := by decide +kernel
theorem d_Md_goOn_49 : decode b_Md_goOn 49 = .ok (.iconst 1, 1) := by decide +kernel
theorem d_Md_goOn_50 : decode b_Md_goOn 50 = .ok (.iadd, 1) := by decide +kernel
theorem d_Md_goOn_51 : decode b_Md_goOn 51 = .ok (.iaload, 1) := by decide +kernel
theorem d_Md_goOn_52 : decode b_Md_goOn 52 = .ok (.invokevirtual 99, 3) := by decide +kernel
theorem d_Md_goOn_55 : decode b_Md_goOn 55 = .ok (.aload_n 0, 1) := by decide +kernel
theorem d_Md_goOn_56 : decode b_Md_goOn 56 = .ok (.getfield 93, 3) := by decide +kernel
theorem d_Md_goOn_59 : decode b_Md_goOn 59 = .ok (.aload_n 0, 1) := by decide +kernel
theorem d_Md_goOn_60 : decode b_Md_goOn 60 = .ok (.getfield 32, 3) := by decide +kernel
theorem d_Md_goOn_63 : decode b_Md_goOn 63 = .ok (.iload_n 1, 1) := by decide +kernel
theorem d_Md_goOn_64 : decode b_Md_goOn 64 = .ok (.iaload, 1) := by decide +kernel
theorem d_Md_goOn_65 : decode b_Md_goOn 65 = .ok (.if_icmp .le 17, 3) := by decide +kernel
theorem d_Md_goOn_68 : decode b_Md_goOn 68 = .ok (.aload_n 0, 1) := by decide +kernel
theorem d_Md_goOn_69 : decode b_Md_goOn 69 = .ok (.getfield 38, 3) := by decide +kernel
theorem d_Md_goOn_72 : decode b_Md_goOn 72 = .ok (.iload_n 1, 1) := by decide +kernel
theorem d_Md_goOn_73 : decode b_Md_goOn 73 = .ok (.iconst 0, 1) := by decide +kernel
theorem d_Md_goOn_74 : decode b_Md_goOn 74 = .ok (.iastore, 1) := by decide +kernel
theorem d_Md_goOn_75 : decode b_Md_goOn 75 = .ok (.aload_n 0, 1) := by decide +kernel
theorem d_Md_goOn_76 : decode b_Md_goOn 76 = .ok (.getfield 59, 3) := by decide +kernel
theorem d_Md_goOn_79 : decode b_Md_goOn 79 = .ok (.iload_n 1, 1) := by decide +kernel
theorem d_Md_goOn_80 : decode b_Md_goOn 80 = .ok (.iconst 0, 1) := by decide +kernel
theorem d_Md_goOn_81 : decode b_Md_goOn 81 = .ok (.iastore, 1) := by decide +kernel
theorem d_Md_goOn_82 : decode b_Md_goOn 82 = .ok (.aload_n 0, 1) := by decide +kernel
theorem d_Md_goOn_83 : decode b_Md_goOn 83 = .ok (.getfield 32, 3) := by decide +kernel
theorem d_Md_goOn_86 : decode b_Md_goOn 86 = .ok (.iload_n 1, 1) := by decide +kernel
theorem d_Md_goOn_87 : decode b_Md_goOn 87 = .ok (.aload_n 0, 1) := by decide +kernel
theorem d_Md_goOn_88 : decode b_Md_goOn 88 = .ok (.getfield 93, 3) := by decide +kernel
theorem d_Md_goOn_91 : decode b_Md_goOn 91 = .ok (.iastore, 1) := by decide +kernel
theorem d_Md_goOn_92 : decode b_Md_goOn 92 = .ok (.aload_n 0, 1) := by decide +kernel
theorem d_Md_goOn_93 : decode b_Md_goOn 93 = .ok (.getfield 35, 3) := by decide +kernel
theorem d_Md_goOn_96 : decode b_Md_goOn 96 = .ok (.iload_n 1, 1) := by decide +kernel
theorem d_Md_goOn_97 : decode b_Md_goOn 97 = .ok (.aload_n 0, 1) := by decide +kernel
theorem d_Md_goOn_98 : decode b_Md_goOn 98 = .ok (.getfield 90, 3) := by decide +kernel
theorem d_Md_goOn_101 : decode b_Md_goOn 101 = .ok (.iastore, 1) := by decide +kernel
theorem d_Md_goOn_102 : decode b_Md_goOn 102 = .ok (.iconst 1, 1) := by decide +kernel
theorem d_Md_goOn_103 : decode b_Md_goOn 103 = .ok (.istore_n 2, 1) := by decide +kernel
theorem d_Md_goOn_104 : decode b_Md_goOn 104 = .ok (.iload_n 2, 1) := by decide +kernel
theorem d_Md_goOn_105 : decode b_Md_goOn 105 = .ok (.aload_n 0, 1) := by decide +kernel
theorem d_Md_goOn_106 : decode b_Md_goOn 106 = .ok (.getfield 90, 3) := by decide +kernel
theorem d_Md_goOn_109 : decode b_Md_goOn 109 = .ok (.if_icmp .gt 23, 3) := by decide +kernel
theorem d_Md_goOn_112 : decode b_Md_goOn 112 = .ok (.aload_n 0, 1) := by decide +kernel
theorem d_Md_goOn_113 : decode b_Md_goOn 113 = .ok (.getfield 38, 3) := by decide +kernel
theorem d_Md_goOn_116 : decode b_Md_goOn 116 = .ok (.iload_n 1, 1) := by decide +kernel
theorem d_Md_goOn_117 : decode b_Md_goOn 117 = .ok (.dup2, 1) := by decide +kernel
theorem d_Md_goOn_118 : decode b_Md_goOn 118 = .ok (.iaload, 1) := by decide +kernel
theorem d_Md_goOn_119 : decode b_Md_goOn 119 = .ok (.iconst 1, 1) := by decide +kernel
theorem d_Md_goOn_120 : decode b_Md_goOn 120 = .ok (.iload_n 2, 1) := by decide +kernel
theorem d_Md_goOn_121 : decode b_Md_goOn 121 = .ok (.ishl, 1) := by decide +kernel
theorem d_Md_goOn_122 : decode b_Md_goOn 122 = .ok (.iconst (-1), 1) := by decide +kernel
theorem d_Md_goOn_123 : decode b_Md_goOn 123 = .ok (.ixor, 1) := by decide +kernel
theorem d_Md_goOn_124 : decode b_Md_goOn 124 = .ok (.iand, 1) := by decide +kernel
theorem d_Md_goOn_125 : decode b_Md_goOn 125 = .ok (.iastore, 1) := by decide +kernel
theorem d_Md_goOn_126 : decode b_Md_goOn 126 = .ok (.iinc 2 1, 3) := by decide +kernel
theorem d_Md_goOn_129 : decode b_Md_goOn 129 = .ok (.goto (-25), 3) := by decide +kernel
theorem d_Md_goOn_132 : decode b_Md_goOn 132 = .ok (.goto (-132), 3) := by decide +kernel
theorem d_Md_goOn_135 : decode b_Md_goOn 135 = .ok (.aload_n 0, 1) := by decide +kernel
theorem d_Md_goOn_136 : decode b_Md_goOn 136 = .ok (.getfield 59, 3) := by decide +kernel
theorem d_Md_goOn_139 : decode b_Md_goOn 139 = .ok (.iload_n 1, 1) := by decide +kernel
theorem d_Md_goOn_140 : decode b_Md_goOn 140 = .ok (.iaload, 1) := by decide +kernel
theorem d_Md_goOn_141 : decode b_Md_goOn 141 = .ok (.ifCond .le 39, 3) := by decide +kernel
theorem d_Md_goOn_144 : decode b_Md_goOn 144 = .ok (.aload_n 0, 1) := by decide +kernel
theorem d_Md_goOn_145 : decode b_Md_goOn 145 = .ok (.getfield 59, 3) := by decide +kernel
theorem d_Md_goOn_148 : decode b_Md_goOn 148 = .ok (.iload_n 1, 1) := by decide +kernel
theorem d_Md_goOn_149 : decode b_Md_goOn 149 = .ok (.iaload, 1) := by decide +kernel
theorem d_Md_goOn_150 : decode b_Md_goOn 150 = .ok (.aload_n 0, 1) := by decide +kernel
theorem d_Md_goOn_151 : decode b_Md_goOn 151 = .ok (.getfield 35, 3) := by decide +kernel
theorem d_Md_goOn_154 : decode b_Md_goOn 154 = .ok (.iload_n 1, 1) := by decide +kernel
theorem d_Md_goOn_155 : decode b_Md_goOn 155 = .ok (.iaload, 1) := by decide +kernel
theorem d_Md_goOn_156 : decode b_Md_goOn 156 = .ok (.if_icmp .le 17, 3) := by decide +kernel
theorem d_Md_goOn_159 : decode b_Md_goOn 159 = .ok (.aload_n 0, 1) := by decide +kernel
theorem d_Md_goOn_160 : decode b_Md_goOn 160 = .ok (.iload_n 1, 1) := by decide +kernel
theorem d_Md_goOn_161 : decode b_Md_goOn 161 = .ok (.aload_n 0, 1) := by decide +kernel
theorem d_Md_goOn_162 : decode b_Md_goOn 162 = .ok (.getfield 59, 3) := by decide +kernel
theorem d_Md_goOn_165 : decode b_Md_goOn 165 = .ok (.iload_n 1, 1) := by decide +kernel
theorem d_Md_goOn_166 : decode b_Md_goOn 166 = .ok (.iaload, 1) := by decide +kernel
theorem d_Md_goOn_167 : decode b_Md_goOn 167 = .ok (.invokevirtual 121, 3) := by decide +kernel
theorem d_Md_goOn_170 : decode b_Md_goOn 170 = .ok (.ifCond .eq 10, 3) := by decide +kernel
theorem d_Md_goOn_173 : decode b_Md_goOn 173 = .ok (.aload_n 0, 1) := by decide +kernel
theorem d_Md_goOn_174 : decode b_Md_goOn 174 = .ok (.getfield 59, 3) := by decide +kernel
theorem d_Md_goOn_177 : decode b_Md_goOn 177 = .ok (.iload_n 1, 1) := by decide +kernel
theorem d_Md_goOn_178 : decode b_Md_goOn 178 = .ok (.iconst 0, 1) := by decide +kernel
theorem d_Md_goOn_179 : decode b_Md_goOn 179 = .ok (.iastore, 1) := by decide +kernel
theorem d_Md_goOn_180 : decode b_Md_goOn 180 = .ok (.return_, 1) := by decide +kernel
theorem d_Md_later_0 : decode b_Md_later 0 = .ok (.iload_n 1, 1) := by decide +kernel
theorem d_Md_later_1 : decode b_Md_later 1 = .ok (.aload_n 0, 1) := by decide +kernel
theorem d_Md_later_2 : decode b_Md_later 2 = .ok (.getfield 32, 3) := by decide +kernel
theorem d_Md_later_5 : decode b_Md_later 5 = .ok (.iload_n 3, 1) := by decide +kernel
theorem d_Md_later_6 : decode b_Md_later 6 = .ok (.iaload, 1) := by decide +kernel
theorem d_Md_later_7 : decode b_Md_later 7 = .ok (.if_icmp .gt 23, 3) := by decide +kernel
theorem d_Md_later_10 : decode b_Md_later 10 = .ok (.iload_n 1, 1) := by decide +kernel
theorem d_Md_later_11 : decode b_Md_later 11 = .ok (.aload_n 0, 1) := by decide +kernel
theorem d_Md_later_12 : decode b_Md_later 12 = .ok (.getfield 32, 3) := by decide +kernel
theorem d_Md_later_15 : decode b_Md_later 15 = .ok (.iload_n 3, 1) := by decide +kernel
theorem d_Md_later_16 : decode b_Md_later 16 = .ok (.iaload, 1) := by decide +kernel
theorem d_Md_later_17 : decode b_Md_later 17 = .ok (.if_icmp .ne 17, 3) := by decide +kernel
theorem d_Md_later_20 : decode b_Md_later 20 = .ok (.iload_n 2, 1) := by decide +kernel
theorem d_Md_later_21 : decode b_Md_later 21 = .ok (.aload_n 0, 1) := by decide +kernel
theorem d_Md_later_22 : decode b_Md_later 22 = .ok (.getfield 35, 3) := by decide +kernel
theorem d_Md_later_25 : decode b_Md_later 25 = .ok (.iload_n 3, 1) := by decide +kernel
theorem d_Md_later_26 : decode b_Md_later 26 = .ok (.iaload, 1) := by decide +kernel
theorem d_Md_later_27 : decode b_Md_later 27 = .ok (.if_icmp .le 7, 3) := by decide +kernel
theorem d_Md_later_30 : decode b_Md_later 30 = .ok (.iconst 1, 1) := by decide +kernel
theorem d_Md_later_31 : decode b_Md_later 31 = .ok (.goto 4, 3) := by decide +kernel
theorem d_Md_later_34 : decode b_Md_later 34 = .ok (.iconst 0, 1) := by decide +kernel
theorem d_Md_later_35 : decode b_Md_later 35 = .ok (.ireturn, 1) := by decide +kernel
theorem d_Md_install_0 : decode b_Md_install 0 = .ok (.aload_n 0, 1) := by decide +kernel
theorem d_Md_install_1 : decode b_Md_install 1 = .ok (.aload_n 0, 1) := by decide +kernel
theorem d_Md_install_2 : decode b_Md_install 2 = .ok (.getfield 32, 3) := by decide +kernel
theorem d_Md_install_5 : decode b_Md_install 5 = .ok (.iload_n 2, 1) := by decide +kernel
theorem d_Md_install_6 : decode b_Md_install 6 = .ok (.iaload, 1) := by decide +kernel
theorem d_Md_install_7 : decode b_Md_install 7 = .ok (.aload_n 0, 1) := by decide +kernel
theorem d_Md_install_8 : decode b_Md_install 8 = .ok (.getfield 35, 3) := by decide +kernel
theorem d_Md_install_11 : decode b_Md_install 11 = .ok (.iload_n 2, 1) := by decide +kernel
theorem d_Md_install_12 : decode b_Md_install 12 = .ok (.iaload, 1) := by decide +kernel
theorem d_Md_install_13 : decode b_Md_install 13 = .ok (.iload_n 1, 1) := by decide +kernel
theorem d_Md_install_14 : decode b_Md_install 14 = .ok (.invokevirtual 125, 3) := by decide +kernel
theorem d_Md_install_17 : decode b_Md_install 17 = .ok (.ifCond .ne 4, 3) := by decide +kernel
theorem d_Md_install_20 : decode b_Md_install 20 = .ok (.return_, 1) := by decide +kernel
theorem d_Md_install_21 : decode b_Md_install 21 = .ok (.aload_n 0, 1) := by decide +kernel
theorem d_Md_install_22 : decode b_Md_install 22 = .ok (.getfield 32, 3) := by decide +kernel
theorem d_Md_install_25 : decode b_Md_install 25 = .ok (.iload_n 1, 1) := by decide +kernel
theorem d_Md_install_26 : decode b_Md_install 26 = .ok (.aload_n 0, 1) := by decide +kernel
theorem d_Md_install_27 : decode b_Md_install 27 = .ok (.getfield 32, 3) := by decide +kernel
theorem d_Md_install_30 : decode b_Md_install 30 = .ok (.iload_n 2, 1) := by decide +kernel
theorem d_Md_install_31 : decode b_Md_install 31 = .ok (.iaload, 1) := by decide +kernel
theorem d_Md_install_32 : decode b_Md_install 32 = .ok (.iastore, 1) := by decide +kernel
theorem d_Md_install_33 : decode b_Md_install 33 = .ok (.aload_n 0, 1) := by decide +kernel
theorem d_Md_install_34 : decode b_Md_install 34 = .ok (.getfield 35, 3) := by decide +kernel
theorem d_Md_install_37 : decode b_Md_install 37 = .ok (.iload_n 1, 1) := by decide +kernel
theorem d_Md_install_38 : decode b_Md_install 38 = .ok (.aload_n 0, 1) := by decide +kernel
theorem d_Md_install_39 : decode b_Md_install 39 = .ok (.getfield 35, 3) := by decide +kernel
theorem d_Md_install_42 : decode b_Md_install 42 = .ok (.iload_n 2, 1) := by decide +kernel
theorem d_Md_install_43 : decode b_Md_install 43 = .ok (.iaload, 1) := by decide +kernel
theorem d_Md_install_44 : decode b_Md_install 44 = .ok (.iastore, 1) := by decide +kernel
theorem d_Md_install_45 : decode b_Md_install 45 = .ok (.aload_n 0, 1) := by decide +kernel
theorem d_Md_install_46 : decode b_Md_install 46 = .ok (.getfield 38, 3) := by decide +kernel
theorem d_Md_install_49 : decode b_Md_install 49 = .ok (.iload_n 1, 1) := by decide +kernel
theorem d_Md_install_50 : decode b_Md_install 50 = .ok (.iconst 0, 1) := by decide +kernel
theorem d_Md_install_51 : decode b_Md_install 51 = .ok (.iastore, 1) := by decide +kernel
theorem d_Md_install_52 : decode b_Md_install 52 = .ok (.aload_n 0, 1) := by decide +kernel
theorem d_Md_install_53 : decode b_Md_install 53 = .ok (.getfield 59, 3) := by decide +kernel
theorem d_Md_install_56 : decode b_Md_install 56 = .ok (.iload_n 1, 1) := by decide +kernel
theorem d_Md_install_57 : decode b_Md_install 57 = .ok (.iconst 0, 1) := by decide +kernel
theorem d_Md_install_58 : decode b_Md_install 58 = .ok (.iastore, 1) := by decide +kernel
theorem d_Md_install_59 : decode b_Md_install 59 = .ok (.return_, 1) := by decide +kernel
def wp_Md_majority (z1 : MmdT) (x1 : Int32) (x2 : Int32) (post : Int32 → MmdT → Prop) : Prop := (wp_Md_membersOf z1 x2 (fun (r1 : Int32) (u2 : MmdT) => (wp_Md_count (x1 &&& r1) (fun (r3 : Int32) => (wp_Md_count r1 (fun (r4 : Int32) => ((((2 : Int32) * r3) ≤ r4 → (post (0 : Int32) u2)) ∧ (¬ ((2 : Int32) * r3) ≤ r4 → (post (1 : Int32) u2)))))))))
abbrev rm_Md_majority : Room := { frames := 4, cells := 0, slots := 0, locals := 89 }
def wp_Md_hear (z1 : MmdT) (x1 : Int32) (post : MmdT → Prop) : Prop := (vp_in x1 31 ∧ (vp_in x1 31 ∧ (∀ w1 : MmdT, w1 = mmd_s_heardOf z1 (upd (mmd_heardOf z1) (x1).toNatClampNeg (((mmd_heardOf z1) (x1).toNatClampNeg) + (1 : Int32))) → (vp_in x1 31 ∧ (vp_in x1 31 ∧ (∀ w2 : MmdT, w2 = mmd_s_replyOf w1 (upd (mmd_replyOf w1) (x1).toNatClampNeg ((mmd_answers w1) (x1).toNatClampNeg)) → (post w2)))))))
abbrev rm_Md_hear : Room := { frames := 0, cells := 0, slots := 0, locals := 0 }
def wp_Md_isUp (z1 : MmdT) (x1 : Int32) (post : Int32 → MmdT → Prop) : Prop := (wp_Md_node x1 (fun (r1 : Int32) => ((r1 = (0 : Int32) → (post (0 : Int32) z1)) ∧ (¬ r1 = (0 : Int32) → (((((mmd_up z1) >>> (x1 &&& 31)) &&& (1 : Int32)) = (1 : Int32) → (post (1 : Int32) z1)) ∧ (¬ (((mmd_up z1) >>> (x1 &&& 31)) &&& (1 : Int32)) = (1 : Int32) → (post (0 : Int32) z1)))))))
abbrev rm_Md_isUp : Room := { frames := 1, cells := 0, slots := 0, locals := 20 }
def wp_Md_knows (z1 : MmdT) (x1 : Int32) (x2 : Int32) (post : Int32 → MmdT → Prop) : Prop := (vp_in x1 6 ∧ ((((((mmd_known z1) (x1).toNatClampNeg) >>> (x2 &&& 31)) &&& (1 : Int32)) = (1 : Int32) → (post (1 : Int32) z1)) ∧ (¬ ((((mmd_known z1) (x1).toNatClampNeg) >>> (x2 &&& 31)) &&& (1 : Int32)) = (1 : Int32) → (post (0 : Int32) z1))))
abbrev rm_Md_knows : Room := { frames := 0, cells := 0, slots := 0, locals := 0 }
def wp_Md_goOn_L104 (K104 : Int32 → Int32 → MmdT → Prop) : Nat → Int32 → Int32 → MmdT → Prop
  | 0, _, _, _ => False
  | n104 + 1, y1, y2, z1 => (((mmd_atE z1) < y2 → K104 y1 y2 z1) ∧ (¬ (mmd_atE z1) < y2 → (vp_in y1 6 ∧ (vp_in y1 6 ∧ (∀ w13 : MmdT, w13 = mmd_s_known z1 (upd (mmd_known z1) (y1).toNatClampNeg (((mmd_known z1) (y1).toNatClampNeg) &&& (((1 : Int32) <<< (y2 &&& 31)) ^^^ (-1 : Int32)))) → (∀ v14 : Int32, v14 = (y2 + (1 : Int32)) → wp_Md_goOn_L104 K104 n104 y1 v14 w13))))))
def wp_Md_goOn_L0 (K0 : Int32 → MmdT → Prop) : Nat → Int32 → MmdT → Prop
  | 0, _, _ => False
  | n0 + 1, y1, z1 => (vp_in y1 6 ∧ (((8 : Int32) ≤ ((mmd_executed z1) (y1).toNatClampNeg) → K0 y1 z1) ∧ (¬ (8 : Int32) ≤ ((mmd_executed z1) (y1).toNatClampNeg) → (vp_in y1 6 ∧ (wp_Md_knows z1 y1 (((mmd_executed z1) (y1).toNatClampNeg) + (1 : Int32)) (fun (r2 : Int32) (u3 : MmdT) => ((r2 = (0 : Int32) → K0 y1 u3) ∧ (¬ r2 = (0 : Int32) → (wp_Md_replayOf u3 y1 (fun (u6 : MmdT) => (vp_in ((((9 : Int32) * (mmd_atC u6)) + (mmd_atE u6)) + (1 : Int32)) 45 ∧ (wp_Md_execute u6 ((mmd_decided u6) (((((9 : Int32) * (mmd_atC u6)) + (mmd_atE u6)) + (1 : Int32))).toNatClampNeg) (fun (u8 : MmdT) => (vp_in y1 6 ∧ (((mmd_atC u8) ≤ ((mmd_configuration u8) (y1).toNatClampNeg) → (vp_in y1 6 ∧ (∀ w10 : MmdT, w10 = mmd_s_configuration u8 (upd (mmd_configuration u8) (y1).toNatClampNeg (mmd_atC u8)) → (vp_in y1 6 ∧ (∀ w11 : MmdT, w11 = mmd_s_executed w10 (upd (mmd_executed w10) (y1).toNatClampNeg (mmd_atE w10)) → (∃ n104 : Nat, wp_Md_goOn_L104 (fun (y1 : Int32) (y2 : Int32) (z1 : MmdT) => wp_Md_goOn_L0 K0 n0 y1 z1) n104 y1 (1 : Int32) w11)))))) ∧ (¬ (mmd_atC u8) ≤ ((mmd_configuration u8) (y1).toNatClampNeg) → (vp_in y1 6 ∧ (∀ w15 : MmdT, w15 = mmd_s_known u8 (upd (mmd_known u8) (y1).toNatClampNeg (0 : Int32)) → (vp_in y1 6 ∧ (∀ w16 : MmdT, w16 = mmd_s_slot w15 (upd (mmd_slot w15) (y1).toNatClampNeg (0 : Int32)) → (vp_in y1 6 ∧ (∀ w17 : MmdT, w17 = mmd_s_configuration w16 (upd (mmd_configuration w16) (y1).toNatClampNeg (mmd_atC w16)) → (vp_in y1 6 ∧ (∀ w18 : MmdT, w18 = mmd_s_executed w17 (upd (mmd_executed w17) (y1).toNatClampNeg (mmd_atE w17)) → (∃ n104 : Nat, wp_Md_goOn_L104 (fun (y1 : Int32) (y2 : Int32) (z1 : MmdT) => wp_Md_goOn_L0 K0 n0 y1 z1) n104 y1 (1 : Int32) w18)))))))))))))))))))))))))
def wp_Md_goOn (z1 : MmdT) (x1 : Int32) (post : MmdT → Prop) : Prop := (∃ n0 : Nat, wp_Md_goOn_L0 (fun (y1 : Int32) (z1 : MmdT) => (vp_in y1 6 ∧ ((((mmd_slot z1) (y1).toNatClampNeg) ≤ (0 : Int32) → (post z1)) ∧ (¬ ((mmd_slot z1) (y1).toNatClampNeg) ≤ (0 : Int32) → (vp_in y1 6 ∧ (vp_in y1 6 ∧ ((((mmd_slot z1) (y1).toNatClampNeg) ≤ ((mmd_executed z1) (y1).toNatClampNeg) → (vp_in y1 6 ∧ (∀ w24 : MmdT, w24 = mmd_s_slot z1 (upd (mmd_slot z1) (y1).toNatClampNeg (0 : Int32)) → (post w24)))) ∧ (¬ ((mmd_slot z1) (y1).toNatClampNeg) ≤ ((mmd_executed z1) (y1).toNatClampNeg) → (vp_in y1 6 ∧ (wp_Md_knows z1 y1 ((mmd_slot z1) (y1).toNatClampNeg) (fun (r25 : Int32) (u26 : MmdT) => ((r25 = (0 : Int32) → (post u26)) ∧ (¬ r25 = (0 : Int32) → (vp_in y1 6 ∧ (∀ w28 : MmdT, w28 = mmd_s_slot u26 (upd (mmd_slot u26) (y1).toNatClampNeg (0 : Int32)) → (post w28)))))))))))))))) n0 x1 z1)
abbrev rm_Md_goOn : Room := { frames := 3, cells := 0, slots := 0, locals := 68 }
def wp_Md_later (z1 : MmdT) (x1 : Int32) (x2 : Int32) (x3 : Int32) (post : Int32 → MmdT → Prop) : Prop := (vp_in x3 6 ∧ ((((mmd_configuration z1) (x3).toNatClampNeg) < x1 → (post (1 : Int32) z1)) ∧ (¬ ((mmd_configuration z1) (x3).toNatClampNeg) < x1 → (vp_in x3 6 ∧ ((x1 = ((mmd_configuration z1) (x3).toNatClampNeg) → (vp_in x3 6 ∧ ((x2 ≤ ((mmd_executed z1) (x3).toNatClampNeg) → (post (0 : Int32) z1)) ∧ (¬ x2 ≤ ((mmd_executed z1) (x3).toNatClampNeg) → (post (1 : Int32) z1))))) ∧ (¬ x1 = ((mmd_configuration z1) (x3).toNatClampNeg) → (post (0 : Int32) z1)))))))
abbrev rm_Md_later : Room := { frames := 0, cells := 0, slots := 0, locals := 0 }
def wp_Md_install (z1 : MmdT) (x1 : Int32) (x2 : Int32) (post : MmdT → Prop) : Prop := (vp_in x2 6 ∧ (vp_in x2 6 ∧ (wp_Md_later z1 ((mmd_configuration z1) (x2).toNatClampNeg) ((mmd_executed z1) (x2).toNatClampNeg) x1 (fun (r1 : Int32) (u2 : MmdT) => ((r1 = (0 : Int32) → (post u2)) ∧ (¬ r1 = (0 : Int32) → (vp_in x2 6 ∧ (vp_in x1 6 ∧ (∀ w4 : MmdT, w4 = mmd_s_configuration u2 (upd (mmd_configuration u2) (x1).toNatClampNeg ((mmd_configuration u2) (x2).toNatClampNeg)) → (vp_in x2 6 ∧ (vp_in x1 6 ∧ (∀ w5 : MmdT, w5 = mmd_s_executed w4 (upd (mmd_executed w4) (x1).toNatClampNeg ((mmd_executed w4) (x2).toNatClampNeg)) → (vp_in x1 6 ∧ (∀ w6 : MmdT, w6 = mmd_s_known w5 (upd (mmd_known w5) (x1).toNatClampNeg (0 : Int32)) → (vp_in x1 6 ∧ (∀ w7 : MmdT, w7 = mmd_s_slot w6 (upd (mmd_slot w6) (x1).toNatClampNeg (0 : Int32)) → (post w7)))))))))))))))))
abbrev rm_Md_install : Room := { frames := 1, cells := 0, slots := 0, locals := 23 }
set_option maxHeartbeats 4000000 in
set_option maxRecDepth 100000 in
theorem c_Md_majority (l : Launch) (D : va_G) (cI cN cZ : ClassId) (a1 : Nat → Nat) (z1 : MmdT) (x1 : Int32) (x2 : Int32) (post : Int32 → MmdT → Prop) (hw : wp_Md_majority z1 x1 x2 post) : km_I l y_Md_majority (.code y_Md_majority b_Md_majority 4 (some .boolean) :: kmW) rm_Md_majority D kmC (kmT cI cN cZ) kmF kmM [.ref (a1 0), .int x1, .int x2] (mmdW cI cN cZ a1 z1) (fun (r : Int32) (u : MmdT) => post r u) (fun (u : MmdT) => (mmdW cI cN cZ a1 u)) 0 0 := by
  refine km_startI (cc := b_Md_majority) (maxL := 4) (ret := (some .boolean)) (by decide) rfl (Nat.le_of_ble_eq_true rfl) ?_
  intro p e s m below meth c A ls hE hA hK hP hD hS hl
  obtain ⟨hx, hb, hr, hml, hown, hts0, hlk, hnm⟩ := id hE
  have hts : ∀ w ∈ kmW, w.before ([.ref (a1 0), .int x1, .int x2] : List Value).toArray s = true := fun w h => hts0 w (List.mem_cons_of_mem _ h)
  have hP : va_P D kmC (mmdW cI cN cZ a1 z1) s.heap := hP
  have hl : lv_has ls 4 [(0, .ref (a1 0)), (1, .int x1), (2, .int x2)] := hl
  unfold wp_Md_majority at hw
  refine lv_aload_n hx hb d_Md_majority_0 rfl (lv_at hl 0 rfl) ?_
  refine lv_iload_n hx hb d_Md_majority_1 rfl (lv_at hl 2 rfl) ?_
  refine km_ci (wr := []) (km_rV (n := 1) hE kmG (c_Md_membersOf l D cI cN cZ a1 z1 x2 _ hw) mw_580 mw_577 mw_579 mp_36 mw_8 (by decide) ⟨rfl, rfl, ⟨by decide, by decide⟩, by decide, by decide⟩ hK (km_cut hP [0, 1, 2, 3, 4, 5, 6, 7, 8, 9, 10, 11, 12, 13, 14, 15, 16, 17, 18, 19, 20, 21, 22, 23, 24, 25] rfl) (hD.sub [0, 1, 2, 3, 4, 5, 6, 7, 8, 9, 10, 11, 12, 13, 14, 15, 16, 17, 18, 19, 20, 21, 22, 23, 24, 25] (by decide) rfl) (ci := 6) rfl hP (q0 := 0) rfl rfl hl.1 rfl (Nat.le_of_ble_eq_true rfl) d_Md_majority_2) hP hD hS hA [0, 1, 2, 3, 4, 5, 6, 7, 8, 9, 10, 11, 12, 13, 14, 15, 16, 17, 18, 19, 20, 21, 22, 23, 24, 25] [] rfl rfl (by decide) (by decide) (fun r1 u2 H locs hw hP hD hS => ?_)
  have hP : va_P D kmC (mmdW cI cN cZ a1 u2) H := hP
  have hD : va_D A (mmdW cI cN cZ a1 u2) := hD
  refine lv_istore_n (lv' := [(3, .int r1), (0, .ref (a1 0)), (1, .int x1), (2, .int x2)]) hx hb d_Md_majority_5 rfl hl (by decide) rfl (fun ls hl => ?_)
  refine lv_iconst (v := (2 : Int32)) hx hb d_Md_majority_6 (by decide) ?_
  refine lv_iload_n hx hb d_Md_majority_7 rfl (lv_at hl 2 rfl) ?_
  refine lv_iload_n hx hb d_Md_majority_8 rfl (lv_at hl 0 rfl) ?_
  refine lv_iand hx hb d_Md_majority_9 ?_
  refine km_ci (wr := [(a1 0, .inr (6, [.int (mmd_requests u2), .ref (a1 1), .ref (a1 2), .ref (a1 3), .ref (a1 4), .ref (a1 5), .int (mmd_router u2), .ref (a1 6), .int (mmd_up u2), .ref (a1 7), .ref (a1 8), .ref (a1 9), .ref (a1 10), .ref (a1 11), .ref (a1 12), .ref (a1 13), .ref (a1 14), .ref (a1 15), .ref (a1 16), .ref (a1 17), .ref (a1 18), .ref (a1 19), .ref (a1 20), .ref (a1 21), .ref (a1 22), .ref (a1 23), .ref (a1 24), .ref (a1 25), .int (mmd_members u2), .int (mmd_atC u2), .int (mmd_atE u2)])), (a1 1, .inl (cI, 31, .inl (mmd_kindOf u2))), (a1 2, .inl (cI, 31, .inl (mmd_keyOf u2))), (a1 3, .inl (cI, 31, .inl (mmd_numberOf u2))), (a1 4, .inl (cI, 31, .inl (mmd_heardOf u2))), (a1 5, .inl (cI, 31, .inl (mmd_replyOf u2))), (a1 6, .inl (cI, 45, .inl (mmd_decided u2))), (a1 7, .inl (cI, 6, .inl (mmd_configuration u2))), (a1 8, .inl (cI, 6, .inl (mmd_executed u2))), (a1 9, .inl (cI, 6, .inl (mmd_known u2))), (a1 10, .inl (cI, 6, .inl (mmd_last u2))), (a1 11, .inl (cI, 6, .inl (mmd_retired u2))), (a1 12, .inl (cI, 6, .inl (mmd_pending u2))), (a1 13, .inl (cI, 270, .inl (mmd_promised u2))), (a1 14, .inl (cI, 270, .inl (mmd_voteBallot u2))), (a1 15, .inl (cI, 270, .inl (mmd_voteCommand u2))), (a1 16, .inl (cI, 6, .inl (mmd_slot u2))), (a1 17, .inl (cI, 6, .inl (mmd_ballot u2))), (a1 18, .inl (cI, 6, .inl (mmd_promisers u2))), (a1 19, .inl (cI, 6, .inl (mmd_voters u2))), (a1 20, .inl (cI, 6, .inl (mmd_bestBallot u2))), (a1 21, .inl (cI, 6, .inl (mmd_bestCommand u2))), (a1 22, .inl (cI, 6, .inl (mmd_command u2))), (a1 23, .inl (cI, 4, .inl (mmd_values u2))), (a1 24, .inl (cZ, 31, .inl (mmd_done u2))), (a1 25, .inl (cI, 31, .inl (mmd_answers u2)))]) (km_rS (n := 1) hE kmG (c_Md_count l D cI cN cZ (x1 &&& r1) _ hw) mw_528 mw_526 mw_527 mw_8 (by decide) ⟨rfl, rfl, ⟨by decide, by decide⟩, by decide, by decide⟩ hK (km_cut hP [] rfl) (hD.sub [] (by decide) rfl) rfl hl.1 rfl (Nat.le_of_ble_eq_true rfl) d_Md_majority_10) hP hD hS hA [] [0, 1, 2, 3, 4, 5, 6, 7, 8, 9, 10, 11, 12, 13, 14, 15, 16, 17, 18, 19, 20, 21, 22, 23, 24, 25] rfl rfl (by decide) (by decide) (fun r3 _ H locs hw hP hD hS => ?_)
  have hP := hP.sub (ws' := (mmdW cI cN cZ a1 u2)) [0, 1, 2, 3, 4, 5, 6, 7, 8, 9, 10, 11, 12, 13, 14, 15, 16, 17, 18, 19, 20, 21, 22, 23, 24, 25] rfl
  have hD := hD.sub (ws' := (mmdW cI cN cZ a1 u2)) [0, 1, 2, 3, 4, 5, 6, 7, 8, 9, 10, 11, 12, 13, 14, 15, 16, 17, 18, 19, 20, 21, 22, 23, 24, 25] (by decide) rfl
  refine lv_imul hx hb d_Md_majority_13 ?_
  refine lv_iload_n hx hb d_Md_majority_14 rfl (lv_at hl 0 rfl) ?_
  refine km_ci (wr := [(a1 0, .inr (6, [.int (mmd_requests u2), .ref (a1 1), .ref (a1 2), .ref (a1 3), .ref (a1 4), .ref (a1 5), .int (mmd_router u2), .ref (a1 6), .int (mmd_up u2), .ref (a1 7), .ref (a1 8), .ref (a1 9), .ref (a1 10), .ref (a1 11), .ref (a1 12), .ref (a1 13), .ref (a1 14), .ref (a1 15), .ref (a1 16), .ref (a1 17), .ref (a1 18), .ref (a1 19), .ref (a1 20), .ref (a1 21), .ref (a1 22), .ref (a1 23), .ref (a1 24), .ref (a1 25), .int (mmd_members u2), .int (mmd_atC u2), .int (mmd_atE u2)])), (a1 1, .inl (cI, 31, .inl (mmd_kindOf u2))), (a1 2, .inl (cI, 31, .inl (mmd_keyOf u2))), (a1 3, .inl (cI, 31, .inl (mmd_numberOf u2))), (a1 4, .inl (cI, 31, .inl (mmd_heardOf u2))), (a1 5, .inl (cI, 31, .inl (mmd_replyOf u2))), (a1 6, .inl (cI, 45, .inl (mmd_decided u2))), (a1 7, .inl (cI, 6, .inl (mmd_configuration u2))), (a1 8, .inl (cI, 6, .inl (mmd_executed u2))), (a1 9, .inl (cI, 6, .inl (mmd_known u2))), (a1 10, .inl (cI, 6, .inl (mmd_last u2))), (a1 11, .inl (cI, 6, .inl (mmd_retired u2))), (a1 12, .inl (cI, 6, .inl (mmd_pending u2))), (a1 13, .inl (cI, 270, .inl (mmd_promised u2))), (a1 14, .inl (cI, 270, .inl (mmd_voteBallot u2))), (a1 15, .inl (cI, 270, .inl (mmd_voteCommand u2))), (a1 16, .inl (cI, 6, .inl (mmd_slot u2))), (a1 17, .inl (cI, 6, .inl (mmd_ballot u2))), (a1 18, .inl (cI, 6, .inl (mmd_promisers u2))), (a1 19, .inl (cI, 6, .inl (mmd_voters u2))), (a1 20, .inl (cI, 6, .inl (mmd_bestBallot u2))), (a1 21, .inl (cI, 6, .inl (mmd_bestCommand u2))), (a1 22, .inl (cI, 6, .inl (mmd_command u2))), (a1 23, .inl (cI, 4, .inl (mmd_values u2))), (a1 24, .inl (cZ, 31, .inl (mmd_done u2))), (a1 25, .inl (cI, 31, .inl (mmd_answers u2)))]) (km_rS (n := 1) hE kmG (c_Md_count l D cI cN cZ r1 _ hw) mw_528 mw_526 mw_527 mw_8 (by decide) ⟨rfl, rfl, ⟨by decide, by decide⟩, by decide, by decide⟩ hK (km_cut hP [] rfl) (hD.sub [] (by decide) rfl) rfl hl.1 rfl (Nat.le_of_ble_eq_true rfl) d_Md_majority_15) hP hD hS hA [] [0, 1, 2, 3, 4, 5, 6, 7, 8, 9, 10, 11, 12, 13, 14, 15, 16, 17, 18, 19, 20, 21, 22, 23, 24, 25] rfl rfl (by decide) (by decide) (fun r4 _ H locs hw hP hD hS => ?_)
  have hP := hP.sub (ws' := (mmdW cI cN cZ a1 u2)) [0, 1, 2, 3, 4, 5, 6, 7, 8, 9, 10, 11, 12, 13, 14, 15, 16, 17, 18, 19, 20, 21, 22, 23, 24, 25] rfl
  have hD := hD.sub (ws' := (mmdW cI cN cZ a1 u2)) [0, 1, 2, 3, 4, 5, 6, 7, 8, 9, 10, 11, 12, 13, 14, 15, 16, 17, 18, 19, 20, 21, 22, 23, 24, 25] (by decide) rfl
  refine lv_icmp_le (tgt := 25) hx hb d_Md_majority_18 (by first | rfl | decide) (fun h5 => ?_) (fun h5 => ?_)
  · have hw := hw.1 h5
    refine lv_iconst (v := (0 : Int32)) hx hb d_Md_majority_25 (by decide) ?_
    exact W.zret (ty := .boolean) (v := (0 : Int32)) hx hb hr (by decide) (fun t ht hW => ⟨⟨(0 : Int32), u2, rfl, hw, by rw [ht]; exact hP, hD⟩, hS.F ht⟩) hS.2.2 d_Md_majority_26
  · have hw := hw.2 h5
    refine lv_iconst (v := (1 : Int32)) hx hb d_Md_majority_21 (by decide) ?_
    refine lv_goto (tgt := 26) hx hb d_Md_majority_22 (by first | rfl | decide) ?_
    exact W.zret (ty := .boolean) (v := (1 : Int32)) hx hb hr (by decide) (fun t ht hW => ⟨⟨(1 : Int32), u2, rfl, hw, by rw [ht]; exact hP, hD⟩, hS.F ht⟩) hS.2.2 d_Md_majority_26
set_option maxHeartbeats 4000000 in
set_option maxRecDepth 100000 in
theorem c_Md_hear (l : Launch) (D : va_G) (cI cN cZ : ClassId) (a1 : Nat → Nat) (z1 : MmdT) (x1 : Int32) (post : MmdT → Prop) (hw : wp_Md_hear z1 x1 post) : km_V l y_Md_hear (.code y_Md_hear b_Md_hear 2 none :: kmW) rm_Md_hear D kmC (kmT cI cN cZ) kmF kmM [.ref (a1 0), .int x1] (mmdW cI cN cZ a1 z1) (fun (u : MmdT) => post u) (fun (u : MmdT) => (mmdW cI cN cZ a1 u)) 0 0 := by
  refine km_startV (cc := b_Md_hear) (maxL := 2) (ret := none) (by decide) rfl (Nat.le_of_ble_eq_true rfl) ?_
  intro p e s m below meth c A ls hE hA hK hP hD hS hl
  obtain ⟨hx, hb, hr, hml, hown, hts0, hlk, hnm⟩ := id hE
  have hts : ∀ w ∈ kmW, w.before ([.ref (a1 0), .int x1] : List Value).toArray s = true := fun w h => hts0 w (List.mem_cons_of_mem _ h)
  have hP : va_P D kmC (mmdW cI cN cZ a1 z1) s.heap := hP
  have hl : lv_has ls 2 [(0, .ref (a1 0)), (1, .int x1)] := hl
  unfold wp_Md_hear at hw
  refine lv_aload_n hx hb d_Md_hear_0 rfl (lv_at hl 0 rfl) ?_
  refine va_get (D := D) (ci := 6) (v := .ref (a1 4)) (C := R_Md) (T := F_Md) (N := 31) hx hb hts iw_Md hown hK.1 hP 0 rfl rfl 4 (by decide) (hts _ mw_431) (fun _ h => h) rfl d_Md_hear_1 ?_
  refine lv_iload_n hx hb d_Md_hear_4 rfl (lv_at hl 1 rfl) ?_
  refine lv_dup2_11 hx hb d_Md_hear_5 rfl rfl ?_
  obtain ⟨hin, hw⟩ := hw
  refine va_iald (f := (mmd_heardOf z1)) hx hb hK.1 hP 4 0 rfl rfl hin d_Md_hear_6 ?_
  refine lv_iconst (v := (1 : Int32)) hx hb d_Md_hear_7 (by decide) ?_
  refine lv_iadd hx hb d_Md_hear_8 ?_
  obtain ⟨hin, hw⟩ := hw
  refine va_iast (f := (mmd_heardOf z1)) hx hb hK.1 hP hD hS 4 0 rfl rfl hin d_Md_hear_9 (fun H locs hP hD hS => ?_)
  have hP := (congrArg (fun w => va_P D kmC w H) (sw_mmd_s_heardOf cI cN cZ a1 z1 (upd (mmd_heardOf z1) (x1).toNatClampNeg (((mmd_heardOf z1) (x1).toNatClampNeg) + (1 : Int32))))).mp hP
  have hD := (congrArg (va_D A) (sw_mmd_s_heardOf cI cN cZ a1 z1 (upd (mmd_heardOf z1) (x1).toNatClampNeg (((mmd_heardOf z1) (x1).toNatClampNeg) + (1 : Int32))))).mp hD
  obtain ⟨w1, ew1⟩ : ∃ z : MmdT, z = mmd_s_heardOf z1 (upd (mmd_heardOf z1) (x1).toNatClampNeg (((mmd_heardOf z1) (x1).toNatClampNeg) + (1 : Int32))) := ⟨_, rfl⟩
  rw [← ew1] at hP hD
  have hw := hw w1 ew1
  refine lv_aload_n hx hb d_Md_hear_10 rfl (lv_at hl 0 rfl) ?_
  refine va_get (D := D) (ci := 6) (v := .ref (a1 5)) (C := R_Md) (T := F_Md) (N := 31) hx hb hts iw_Md hown hK.1 hP 0 rfl rfl 5 (by decide) (hts _ mw_432) (fun _ h => h) rfl d_Md_hear_11 ?_
  refine lv_iload_n hx hb d_Md_hear_14 rfl (lv_at hl 1 rfl) ?_
  refine lv_aload_n hx hb d_Md_hear_15 rfl (lv_at hl 0 rfl) ?_
  refine va_get (D := D) (ci := 6) (v := .ref (a1 25)) (C := R_Md) (T := F_Md) (N := 31) hx hb hts iw_Md hown hK.1 hP 0 rfl rfl 27 (by decide) (hts _ mw_454) (fun _ h => h) rfl d_Md_hear_16 ?_
  refine lv_iload_n hx hb d_Md_hear_19 rfl (lv_at hl 1 rfl) ?_
  obtain ⟨hin, hw⟩ := hw
  refine va_iald (f := (mmd_answers w1)) hx hb hK.1 hP 25 0 rfl rfl hin d_Md_hear_20 ?_
  obtain ⟨hin, hw⟩ := hw
  refine va_iast (f := (mmd_replyOf w1)) hx hb hK.1 hP hD hS 5 0 rfl rfl hin d_Md_hear_21 (fun H locs hP hD hS => ?_)
  have hP := (congrArg (fun w => va_P D kmC w H) (sw_mmd_s_replyOf cI cN cZ a1 w1 (upd (mmd_replyOf w1) (x1).toNatClampNeg ((mmd_answers w1) (x1).toNatClampNeg)))).mp hP
  have hD := (congrArg (va_D A) (sw_mmd_s_replyOf cI cN cZ a1 w1 (upd (mmd_replyOf w1) (x1).toNatClampNeg ((mmd_answers w1) (x1).toNatClampNeg)))).mp hD
  obtain ⟨w2, ew2⟩ : ∃ z : MmdT, z = mmd_s_replyOf w1 (upd (mmd_replyOf w1) (x1).toNatClampNeg ((mmd_answers w1) (x1).toNatClampNeg)) := ⟨_, rfl⟩
  rw [← ew2] at hP hD
  have hw := hw w2 ew2
  exact W.vret hx hb hr (fun t ht hW => ⟨⟨w2, rfl, hw, by rw [ht]; exact hP, hD⟩, hS.F ht⟩) hS.2.2 d_Md_hear_22
set_option maxHeartbeats 4000000 in
set_option maxRecDepth 100000 in
theorem c_Md_isUp (l : Launch) (D : va_G) (cI cN cZ : ClassId) (a1 : Nat → Nat) (z1 : MmdT) (x1 : Int32) (post : Int32 → MmdT → Prop) (hw : wp_Md_isUp z1 x1 post) : km_I l y_Md_isUp (.code y_Md_isUp b_Md_isUp 2 (some .boolean) :: kmW) rm_Md_isUp D kmC (kmT cI cN cZ) kmF kmM [.ref (a1 0), .int x1] (mmdW cI cN cZ a1 z1) (fun (r : Int32) (u : MmdT) => post r u) (fun (u : MmdT) => (mmdW cI cN cZ a1 u)) 0 0 := by
  refine km_startI (cc := b_Md_isUp) (maxL := 2) (ret := (some .boolean)) (by decide) rfl (Nat.le_of_ble_eq_true rfl) ?_
  intro p e s m below meth c A ls hE hA hK hP hD hS hl
  obtain ⟨hx, hb, hr, hml, hown, hts0, hlk, hnm⟩ := id hE
  have hts : ∀ w ∈ kmW, w.before ([.ref (a1 0), .int x1] : List Value).toArray s = true := fun w h => hts0 w (List.mem_cons_of_mem _ h)
  have hP : va_P D kmC (mmdW cI cN cZ a1 z1) s.heap := hP
  have hl : lv_has ls 2 [(0, .ref (a1 0)), (1, .int x1)] := hl
  unfold wp_Md_isUp at hw
  refine lv_iload_n hx hb d_Md_isUp_0 rfl (lv_at hl 1 rfl) ?_
  refine km_ci (wr := [(a1 0, .inr (6, [.int (mmd_requests z1), .ref (a1 1), .ref (a1 2), .ref (a1 3), .ref (a1 4), .ref (a1 5), .int (mmd_router z1), .ref (a1 6), .int (mmd_up z1), .ref (a1 7), .ref (a1 8), .ref (a1 9), .ref (a1 10), .ref (a1 11), .ref (a1 12), .ref (a1 13), .ref (a1 14), .ref (a1 15), .ref (a1 16), .ref (a1 17), .ref (a1 18), .ref (a1 19), .ref (a1 20), .ref (a1 21), .ref (a1 22), .ref (a1 23), .ref (a1 24), .ref (a1 25), .int (mmd_members z1), .int (mmd_atC z1), .int (mmd_atE z1)])), (a1 1, .inl (cI, 31, .inl (mmd_kindOf z1))), (a1 2, .inl (cI, 31, .inl (mmd_keyOf z1))), (a1 3, .inl (cI, 31, .inl (mmd_numberOf z1))), (a1 4, .inl (cI, 31, .inl (mmd_heardOf z1))), (a1 5, .inl (cI, 31, .inl (mmd_replyOf z1))), (a1 6, .inl (cI, 45, .inl (mmd_decided z1))), (a1 7, .inl (cI, 6, .inl (mmd_configuration z1))), (a1 8, .inl (cI, 6, .inl (mmd_executed z1))), (a1 9, .inl (cI, 6, .inl (mmd_known z1))), (a1 10, .inl (cI, 6, .inl (mmd_last z1))), (a1 11, .inl (cI, 6, .inl (mmd_retired z1))), (a1 12, .inl (cI, 6, .inl (mmd_pending z1))), (a1 13, .inl (cI, 270, .inl (mmd_promised z1))), (a1 14, .inl (cI, 270, .inl (mmd_voteBallot z1))), (a1 15, .inl (cI, 270, .inl (mmd_voteCommand z1))), (a1 16, .inl (cI, 6, .inl (mmd_slot z1))), (a1 17, .inl (cI, 6, .inl (mmd_ballot z1))), (a1 18, .inl (cI, 6, .inl (mmd_promisers z1))), (a1 19, .inl (cI, 6, .inl (mmd_voters z1))), (a1 20, .inl (cI, 6, .inl (mmd_bestBallot z1))), (a1 21, .inl (cI, 6, .inl (mmd_bestCommand z1))), (a1 22, .inl (cI, 6, .inl (mmd_command z1))), (a1 23, .inl (cI, 4, .inl (mmd_values z1))), (a1 24, .inl (cZ, 31, .inl (mmd_done z1))), (a1 25, .inl (cI, 31, .inl (mmd_answers z1)))]) (km_rS (n := 1) hE kmG (c_Md_node l D cI cN cZ x1 _ hw) mw_535 mw_533 mw_534 mw_8 (by decide) ⟨rfl, rfl, ⟨by decide, by decide⟩, by decide, by decide⟩ hK (km_cut hP [] rfl) (hD.sub [] (by decide) rfl) rfl hl.1 rfl (Nat.le_of_ble_eq_true rfl) d_Md_isUp_1) hP hD hS hA [] [0, 1, 2, 3, 4, 5, 6, 7, 8, 9, 10, 11, 12, 13, 14, 15, 16, 17, 18, 19, 20, 21, 22, 23, 24, 25] rfl rfl (by decide) (by decide) (fun r1 _ H locs hw hP hD hS => ?_)
  have hP := hP.sub (ws' := (mmdW cI cN cZ a1 z1)) [0, 1, 2, 3, 4, 5, 6, 7, 8, 9, 10, 11, 12, 13, 14, 15, 16, 17, 18, 19, 20, 21, 22, 23, 24, 25] rfl
  have hD := hD.sub (ws' := (mmdW cI cN cZ a1 z1)) [0, 1, 2, 3, 4, 5, 6, 7, 8, 9, 10, 11, 12, 13, 14, 15, 16, 17, 18, 19, 20, 21, 22, 23, 24, 25] (by decide) rfl
  refine lv_if_eq (tgt := 23) hx hb d_Md_isUp_4 (by first | rfl | decide) (fun h2 => ?_) (fun h2 => ?_)
  · have hw := hw.1 h2
    refine lv_iconst (v := (0 : Int32)) hx hb d_Md_isUp_23 (by decide) ?_
    exact W.zret (ty := .boolean) (v := (0 : Int32)) hx hb hr (by decide) (fun t ht hW => ⟨⟨(0 : Int32), z1, rfl, hw, by rw [ht]; exact hP, hD⟩, hS.F ht⟩) hS.2.2 d_Md_isUp_24
  · have hw := hw.2 h2
    refine lv_aload_n hx hb d_Md_isUp_7 rfl (lv_at hl 0 rfl) ?_
    refine va_get (D := D) (ci := 6) (v := .int (mmd_up z1)) (C := R_Md) (T := F_Md) (N := 31) hx hb hts iw_Md hown hK.1 hP 0 rfl rfl 8 (by decide) (hts _ mw_435) (fun _ h => h) rfl d_Md_isUp_8 ?_
    refine lv_iload_n hx hb d_Md_isUp_11 rfl (lv_at hl 1 rfl) ?_
    refine lv_ishr hx hb d_Md_isUp_12 ?_
    refine lv_iconst (v := (1 : Int32)) hx hb d_Md_isUp_13 (by decide) ?_
    refine lv_iand hx hb d_Md_isUp_14 ?_
    refine lv_iconst (v := (1 : Int32)) hx hb d_Md_isUp_15 (by decide) ?_
    refine lv_icmp_ne (tgt := 23) hx hb d_Md_isUp_16 (by first | rfl | decide) (fun h3 => ?_) (fun h3 => ?_)
    · have hw := hw.2 h3
      refine lv_iconst (v := (0 : Int32)) hx hb d_Md_isUp_23 (by decide) ?_
      exact W.zret (ty := .boolean) (v := (0 : Int32)) hx hb hr (by decide) (fun t ht hW => ⟨⟨(0 : Int32), z1, rfl, hw, by rw [ht]; exact hP, hD⟩, hS.F ht⟩) hS.2.2 d_Md_isUp_24
    · have hw := hw.1 h3
      refine lv_iconst (v := (1 : Int32)) hx hb d_Md_isUp_19 (by decide) ?_
      refine lv_goto (tgt := 24) hx hb d_Md_isUp_20 (by first | rfl | decide) ?_
      exact W.zret (ty := .boolean) (v := (1 : Int32)) hx hb hr (by decide) (fun t ht hW => ⟨⟨(1 : Int32), z1, rfl, hw, by rw [ht]; exact hP, hD⟩, hS.F ht⟩) hS.2.2 d_Md_isUp_24
set_option maxHeartbeats 4000000 in
set_option maxRecDepth 100000 in
theorem c_Md_knows (l : Launch) (D : va_G) (cI cN cZ : ClassId) (a1 : Nat → Nat) (z1 : MmdT) (x1 : Int32) (x2 : Int32) (post : Int32 → MmdT → Prop) (hw : wp_Md_knows z1 x1 x2 post) : km_I l y_Md_knows (.code y_Md_knows b_Md_knows 3 (some .boolean) :: kmW) rm_Md_knows D kmC (kmT cI cN cZ) kmF kmM [.ref (a1 0), .int x1, .int x2] (mmdW cI cN cZ a1 z1) (fun (r : Int32) (u : MmdT) => post r u) (fun (u : MmdT) => (mmdW cI cN cZ a1 u)) 0 0 := by
  refine km_startI (cc := b_Md_knows) (maxL := 3) (ret := (some .boolean)) (by decide) rfl (Nat.le_of_ble_eq_true rfl) ?_
  intro p e s m below meth c A ls hE hA hK hP hD hS hl
  obtain ⟨hx, hb, hr, hml, hown, hts0, hlk, hnm⟩ := id hE
  have hts : ∀ w ∈ kmW, w.before ([.ref (a1 0), .int x1, .int x2] : List Value).toArray s = true := fun w h => hts0 w (List.mem_cons_of_mem _ h)
  have hP : va_P D kmC (mmdW cI cN cZ a1 z1) s.heap := hP
  have hl : lv_has ls 3 [(0, .ref (a1 0)), (1, .int x1), (2, .int x2)] := hl
  unfold wp_Md_knows at hw
  refine lv_aload_n hx hb d_Md_knows_0 rfl (lv_at hl 0 rfl) ?_
  refine va_get (D := D) (ci := 6) (v := .ref (a1 9)) (C := R_Md) (T := F_Md) (N := 31) hx hb hts iw_Md hown hK.1 hP 0 rfl rfl 11 (by decide) (hts _ mw_438) (fun _ h => h) rfl d_Md_knows_1 ?_
  refine lv_iload_n hx hb d_Md_knows_4 rfl (lv_at hl 1 rfl) ?_
  obtain ⟨hin, hw⟩ := hw
  refine va_iald (f := (mmd_known z1)) hx hb hK.1 hP 9 0 rfl rfl hin d_Md_knows_5 ?_
  refine lv_iload_n hx hb d_Md_knows_6 rfl (lv_at hl 2 rfl) ?_
  refine lv_ishr hx hb d_Md_knows_7 ?_
  refine lv_iconst (v := (1 : Int32)) hx hb d_Md_knows_8 (by decide) ?_
  refine lv_iand hx hb d_Md_knows_9 ?_
  refine lv_iconst (v := (1 : Int32)) hx hb d_Md_knows_10 (by decide) ?_
  refine lv_icmp_ne (tgt := 18) hx hb d_Md_knows_11 (by first | rfl | decide) (fun h1 => ?_) (fun h1 => ?_)
  · have hw := hw.2 h1
    refine lv_iconst (v := (0 : Int32)) hx hb d_Md_knows_18 (by decide) ?_
    exact W.zret (ty := .boolean) (v := (0 : Int32)) hx hb hr (by decide) (fun t ht hW => ⟨⟨(0 : Int32), z1, rfl, hw, by rw [ht]; exact hP, hD⟩, hS.F ht⟩) hS.2.2 d_Md_knows_19
  · have hw := hw.1 h1
    refine lv_iconst (v := (1 : Int32)) hx hb d_Md_knows_14 (by decide) ?_
    refine lv_goto (tgt := 19) hx hb d_Md_knows_15 (by first | rfl | decide) ?_
    exact W.zret (ty := .boolean) (v := (1 : Int32)) hx hb hr (by decide) (fun t ht hW => ⟨⟨(1 : Int32), z1, rfl, hw, by rw [ht]; exact hP, hD⟩, hS.F ht⟩) hS.2.2 d_Md_knows_19
set_option maxHeartbeats 4000000 in
set_option maxRecDepth 100000 in
theorem c_Md_goOn (l : Launch) (D : va_G) (cI cN cZ : ClassId) (a1 : Nat → Nat) (z1 : MmdT) (x1 : Int32) (post : MmdT → Prop) (hw : wp_Md_goOn z1 x1 post) : km_V l y_Md_goOn (.code y_Md_goOn b_Md_goOn 3 none :: kmW) rm_Md_goOn D kmC (kmT cI cN cZ) kmF kmM [.ref (a1 0), .int x1] (mmdW cI cN cZ a1 z1) (fun (u : MmdT) => post u) (fun (u : MmdT) => (mmdW cI cN cZ a1 u)) 0 0 := by
  refine km_startV (cc := b_Md_goOn) (maxL := 3) (ret := none) (by decide) rfl (Nat.le_of_ble_eq_true rfl) ?_
  intro p e s m below meth c A ls hE hA hK hP hD hS hl
  obtain ⟨hx, hb, hr, hml, hown, hts0, hlk, hnm⟩ := id hE
  have hts : ∀ w ∈ kmW, w.before ([.ref (a1 0), .int x1] : List Value).toArray s = true := fun w h => hts0 w (List.mem_cons_of_mem _ h)
  have hP : va_P D kmC (mmdW cI cN cZ a1 z1) s.heap := hP
  have hl : lv_has ls 3 [(0, .ref (a1 0)), (1, .int x1)] := hl
  unfold wp_Md_goOn at hw
  have key0 : ∀ (K0 : Int32 → MmdT → Prop) (hk0 : ∀ (y1 : Int32) (z1 : MmdT) (ls : Array Slot) (H : Heap) (locs : List Loc), K0 y1 z1 → lv_has ls 3 [(1, .int y1), (0, .ref (a1 0))] → va_P D kmC (mmdW cI cN cZ a1 z1) H → va_D A (mmdW cI cN cZ a1 z1) → va_S A s.heap H locs → W p l e rm_Md_goOn s m ([.ref (a1 0), .int x1] : List Value).toArray below meth c H locs 0 0 (MQ below (va_Qv (fun (u : MmdT) => post u) (km_B D kmC A (fun (u : MmdT) => (mmdW cI cN cZ a1 u))) A) ([.ref (a1 0), .int x1] : List Value).toArray s 0 0 A) (F0 m 135 ls [])) (n0 : Nat), ∀ (y1 : Int32) (z1 : MmdT) (ls : Array Slot) (H : Heap) (locs : List Loc), wp_Md_goOn_L0 K0 n0 y1 z1 → lv_has ls 3 [(1, .int y1), (0, .ref (a1 0))] → va_P D kmC (mmdW cI cN cZ a1 z1) H → va_D A (mmdW cI cN cZ a1 z1) → va_S A s.heap H locs → W p l e rm_Md_goOn s m ([.ref (a1 0), .int x1] : List Value).toArray below meth c H locs 0 0 (MQ below (va_Qv (fun (u : MmdT) => post u) (km_B D kmC A (fun (u : MmdT) => (mmdW cI cN cZ a1 u))) A) ([.ref (a1 0), .int x1] : List Value).toArray s 0 0 A) (F0 m 0 ls []) := by
    intro K0 hk0 n0
    induction n0 with
    | zero => intro y1 z1 ls H locs hw; exact hw.elim
    | succ n0 ih0 =>
      intro y1 z1 ls H locs hw hl hP hD hS
      refine lv_aload_n hx hb d_Md_goOn_0 rfl (lv_at hl 1 rfl) ?_
      refine va_get (D := D) (ci := 6) (v := .ref (a1 8)) (C := R_Md) (T := F_Md) (N := 31) hx hb hts iw_Md hown hK.1 hP 0 rfl rfl 10 (by decide) (hts _ mw_437) (fun _ h => h) rfl d_Md_goOn_1 ?_
      refine lv_iload_n hx hb d_Md_goOn_4 rfl (lv_at hl 0 rfl) ?_
      obtain ⟨hin, hw⟩ := hw
      refine va_iald (f := (mmd_executed z1)) hx hb hK.1 hP 8 0 rfl rfl hin d_Md_goOn_5 ?_
      refine lv_bipush (v := (8 : Int32)) hx hb d_Md_goOn_6 (by decide) ?_
      refine lv_icmp_ge (tgt := 135) hx hb d_Md_goOn_8 (by first | rfl | decide) (fun h1 => ?_) (fun h1 => ?_)
      · have hw := hw.1 h1
        exact hk0 y1 z1 ls H locs hw (lv_sub hl [0, 1] rfl) hP hD hS
      · have hw := hw.2 h1
        refine lv_aload_n hx hb d_Md_goOn_11 rfl (lv_at hl 1 rfl) ?_
        refine lv_iload_n hx hb d_Md_goOn_12 rfl (lv_at hl 0 rfl) ?_
        refine lv_aload_n hx hb d_Md_goOn_13 rfl (lv_at hl 1 rfl) ?_
        refine va_get (D := D) (ci := 6) (v := .ref (a1 8)) (C := R_Md) (T := F_Md) (N := 31) hx hb hts iw_Md hown hK.1 hP 0 rfl rfl 10 (by decide) (hts _ mw_437) (fun _ h => h) rfl d_Md_goOn_14 ?_
        refine lv_iload_n hx hb d_Md_goOn_17 rfl (lv_at hl 0 rfl) ?_
        obtain ⟨hin, hw⟩ := hw
        refine va_iald (f := (mmd_executed z1)) hx hb hK.1 hP 8 0 rfl rfl hin d_Md_goOn_18 ?_
        refine lv_iconst (v := (1 : Int32)) hx hb d_Md_goOn_19 (by decide) ?_
        refine lv_iadd hx hb d_Md_goOn_20 ?_
        refine km_ci (wr := []) (km_rV (n := 2) hE kmG (c_Md_knows l D cI cN cZ a1 z1 y1 (((mmd_executed z1) (y1).toNatClampNeg) + (1 : Int32)) _ hw) mw_567 mw_564 mw_566 mp_34 mw_8 (by decide) ⟨rfl, rfl, ⟨by decide, by decide⟩, by decide, by decide⟩ hK (km_cut hP [0, 1, 2, 3, 4, 5, 6, 7, 8, 9, 10, 11, 12, 13, 14, 15, 16, 17, 18, 19, 20, 21, 22, 23, 24, 25] rfl) (hD.sub [0, 1, 2, 3, 4, 5, 6, 7, 8, 9, 10, 11, 12, 13, 14, 15, 16, 17, 18, 19, 20, 21, 22, 23, 24, 25] (by decide) rfl) (ci := 6) rfl hP (q0 := 0) rfl rfl hl.1 rfl (Nat.le_of_ble_eq_true rfl) d_Md_goOn_21) hP hD hS hA [0, 1, 2, 3, 4, 5, 6, 7, 8, 9, 10, 11, 12, 13, 14, 15, 16, 17, 18, 19, 20, 21, 22, 23, 24, 25] [] rfl rfl (by decide) (by decide) (fun r2 u3 H locs hw hP hD hS => ?_)
        have hP : va_P D kmC (mmdW cI cN cZ a1 u3) H := hP
        have hD : va_D A (mmdW cI cN cZ a1 u3) := hD
        refine lv_if_eq (tgt := 135) hx hb d_Md_goOn_24 (by first | rfl | decide) (fun h4 => ?_) (fun h4 => ?_)
        · have hw := hw.1 h4
          exact hk0 y1 u3 ls H locs hw (lv_sub hl [0, 1] rfl) hP hD hS
        · have hw := hw.2 h4
          refine lv_aload_n hx hb d_Md_goOn_27 rfl (lv_at hl 1 rfl) ?_
          refine lv_iload_n hx hb d_Md_goOn_28 rfl (lv_at hl 0 rfl) ?_
          refine km_cv (wr := []) (km_rV (n := 1) hE kmG (c_Md_replayOf l D cI cN cZ a1 u3 y1 _ hw) mw_543 mw_540 mw_542 mp_30 mw_8 (by decide) ⟨rfl, rfl, ⟨by decide, by decide⟩, by decide, by decide⟩ hK (km_cut hP [0, 1, 2, 3, 4, 5, 6, 7, 8, 9, 10, 11, 12, 13, 14, 15, 16, 17, 18, 19, 20, 21, 22, 23, 24, 25] rfl) (hD.sub [0, 1, 2, 3, 4, 5, 6, 7, 8, 9, 10, 11, 12, 13, 14, 15, 16, 17, 18, 19, 20, 21, 22, 23, 24, 25] (by decide) rfl) (ci := 6) rfl hP (q0 := 0) rfl rfl hl.1 rfl (Nat.le_of_ble_eq_true rfl) d_Md_goOn_29) hP hD hS hA [0, 1, 2, 3, 4, 5, 6, 7, 8, 9, 10, 11, 12, 13, 14, 15, 16, 17, 18, 19, 20, 21, 22, 23, 24, 25] [] rfl rfl (by decide) (by decide) (fun u6 H locs hw hP hD hS => ?_)
          have hP : va_P D kmC (mmdW cI cN cZ a1 u6) H := hP
          have hD : va_D A (mmdW cI cN cZ a1 u6) := hD
          refine lv_aload_n hx hb d_Md_goOn_32 rfl (lv_at hl 1 rfl) ?_
          refine lv_aload_n hx hb d_Md_goOn_33 rfl (lv_at hl 1 rfl) ?_
          refine va_get (D := D) (ci := 6) (v := .ref (a1 6)) (C := R_Md) (T := F_Md) (N := 31) hx hb hts iw_Md hown hK.1 hP 0 rfl rfl 7 (by decide) (hts _ mw_434) (fun _ h => h) rfl d_Md_goOn_34 ?_
          refine lv_bipush (v := (9 : Int32)) hx hb d_Md_goOn_37 (by decide) ?_
          refine lv_aload_n hx hb d_Md_goOn_39 rfl (lv_at hl 1 rfl) ?_
          refine va_get (D := D) (ci := 6) (v := .int (mmd_atC u6)) (C := R_Md) (T := F_Md) (N := 31) hx hb hts iw_Md hown hK.1 hP 0 rfl rfl 29 (by decide) (hts _ mw_456) (fun _ h => h) rfl d_Md_goOn_40 ?_
          refine lv_imul hx hb d_Md_goOn_43 ?_
          refine lv_aload_n hx hb d_Md_goOn_44 rfl (lv_at hl 1 rfl) ?_
          refine va_get (D := D) (ci := 6) (v := .int (mmd_atE u6)) (C := R_Md) (T := F_Md) (N := 31) hx hb hts iw_Md hown hK.1 hP 0 rfl rfl 30 (by decide) (hts _ mw_457) (fun _ h => h) rfl d_Md_goOn_45 ?_
          refine lv_iadd hx hb d_Md_goOn_48 ?_
          refine lv_iconst (v := (1 : Int32)) hx hb d_Md_goOn_49 (by decide) ?_
          refine lv_iadd hx hb d_Md_goOn_50 ?_
          obtain ⟨hin, hw⟩ := hw
          refine va_iald (f := (mmd_decided u6)) hx hb hK.1 hP 6 0 rfl rfl hin d_Md_goOn_51 ?_
          refine km_cv (wr := []) (km_rV (n := 1) hE kmG (c_Md_execute l D cI cN cZ a1 u6 ((mmd_decided u6) (((((9 : Int32) * (mmd_atC u6)) + (mmd_atE u6)) + (1 : Int32))).toNatClampNeg) _ hw) mw_551 mw_548 mw_550 mp_32 mw_8 (by decide) ⟨rfl, rfl, ⟨by decide, by decide⟩, by decide, by decide⟩ hK (km_cut hP [0, 1, 2, 3, 4, 5, 6, 7, 8, 9, 10, 11, 12, 13, 14, 15, 16, 17, 18, 19, 20, 21, 22, 23, 24, 25] rfl) (hD.sub [0, 1, 2, 3, 4, 5, 6, 7, 8, 9, 10, 11, 12, 13, 14, 15, 16, 17, 18, 19, 20, 21, 22, 23, 24, 25] (by decide) rfl) (ci := 6) rfl hP (q0 := 0) rfl rfl hl.1 rfl (Nat.le_of_ble_eq_true rfl) d_Md_goOn_52) hP hD hS hA [0, 1, 2, 3, 4, 5, 6, 7, 8, 9, 10, 11, 12, 13, 14, 15, 16, 17, 18, 19, 20, 21, 22, 23, 24, 25] [] rfl rfl (by decide) (by decide) (fun u8 H locs hw hP hD hS => ?_)
          have hP : va_P D kmC (mmdW cI cN cZ a1 u8) H := hP
          have hD : va_D A (mmdW cI cN cZ a1 u8) := hD
          refine lv_aload_n hx hb d_Md_goOn_55 rfl (lv_at hl 1 rfl) ?_
          refine va_get (D := D) (ci := 6) (v := .int (mmd_atC u8)) (C := R_Md) (T := F_Md) (N := 31) hx hb hts iw_Md hown hK.1 hP 0 rfl rfl 29 (by decide) (hts _ mw_456) (fun _ h => h) rfl d_Md_goOn_56 ?_
          refine lv_aload_n hx hb d_Md_goOn_59 rfl (lv_at hl 1 rfl) ?_
          refine va_get (D := D) (ci := 6) (v := .ref (a1 7)) (C := R_Md) (T := F_Md) (N := 31) hx hb hts iw_Md hown hK.1 hP 0 rfl rfl 9 (by decide) (hts _ mw_436) (fun _ h => h) rfl d_Md_goOn_60 ?_
          refine lv_iload_n hx hb d_Md_goOn_63 rfl (lv_at hl 0 rfl) ?_
          obtain ⟨hin, hw⟩ := hw
          refine va_iald (f := (mmd_configuration u8)) hx hb hK.1 hP 7 0 rfl rfl hin d_Md_goOn_64 ?_
          refine lv_icmp_le (tgt := 82) hx hb d_Md_goOn_65 (by first | rfl | decide) (fun h9 => ?_) (fun h9 => ?_)
          · have hw := hw.1 h9
            refine lv_aload_n hx hb d_Md_goOn_82 rfl (lv_at hl 1 rfl) ?_
            refine va_get (D := D) (ci := 6) (v := .ref (a1 7)) (C := R_Md) (T := F_Md) (N := 31) hx hb hts iw_Md hown hK.1 hP 0 rfl rfl 9 (by decide) (hts _ mw_436) (fun _ h => h) rfl d_Md_goOn_83 ?_
            refine lv_iload_n hx hb d_Md_goOn_86 rfl (lv_at hl 0 rfl) ?_
            refine lv_aload_n hx hb d_Md_goOn_87 rfl (lv_at hl 1 rfl) ?_
            refine va_get (D := D) (ci := 6) (v := .int (mmd_atC u8)) (C := R_Md) (T := F_Md) (N := 31) hx hb hts iw_Md hown hK.1 hP 0 rfl rfl 29 (by decide) (hts _ mw_456) (fun _ h => h) rfl d_Md_goOn_88 ?_
            obtain ⟨hin, hw⟩ := hw
            refine va_iast (f := (mmd_configuration u8)) hx hb hK.1 hP hD hS 7 0 rfl rfl hin d_Md_goOn_91 (fun H locs hP hD hS => ?_)
            have hP := (congrArg (fun w => va_P D kmC w H) (sw_mmd_s_configuration cI cN cZ a1 u8 (upd (mmd_configuration u8) (y1).toNatClampNeg (mmd_atC u8)))).mp hP
            have hD := (congrArg (va_D A) (sw_mmd_s_configuration cI cN cZ a1 u8 (upd (mmd_configuration u8) (y1).toNatClampNeg (mmd_atC u8)))).mp hD
            obtain ⟨w10, ew10⟩ : ∃ z : MmdT, z = mmd_s_configuration u8 (upd (mmd_configuration u8) (y1).toNatClampNeg (mmd_atC u8)) := ⟨_, rfl⟩
            rw [← ew10] at hP hD
            have hw := hw w10 ew10
            refine lv_aload_n hx hb d_Md_goOn_92 rfl (lv_at hl 1 rfl) ?_
            refine va_get (D := D) (ci := 6) (v := .ref (a1 8)) (C := R_Md) (T := F_Md) (N := 31) hx hb hts iw_Md hown hK.1 hP 0 rfl rfl 10 (by decide) (hts _ mw_437) (fun _ h => h) rfl d_Md_goOn_93 ?_
            refine lv_iload_n hx hb d_Md_goOn_96 rfl (lv_at hl 0 rfl) ?_
            refine lv_aload_n hx hb d_Md_goOn_97 rfl (lv_at hl 1 rfl) ?_
            refine va_get (D := D) (ci := 6) (v := .int (mmd_atE w10)) (C := R_Md) (T := F_Md) (N := 31) hx hb hts iw_Md hown hK.1 hP 0 rfl rfl 30 (by decide) (hts _ mw_457) (fun _ h => h) rfl d_Md_goOn_98 ?_
            obtain ⟨hin, hw⟩ := hw
            refine va_iast (f := (mmd_executed w10)) hx hb hK.1 hP hD hS 8 0 rfl rfl hin d_Md_goOn_101 (fun H locs hP hD hS => ?_)
            have hP := (congrArg (fun w => va_P D kmC w H) (sw_mmd_s_executed cI cN cZ a1 w10 (upd (mmd_executed w10) (y1).toNatClampNeg (mmd_atE w10)))).mp hP
            have hD := (congrArg (va_D A) (sw_mmd_s_executed cI cN cZ a1 w10 (upd (mmd_executed w10) (y1).toNatClampNeg (mmd_atE w10)))).mp hD
            obtain ⟨w11, ew11⟩ : ∃ z : MmdT, z = mmd_s_executed w10 (upd (mmd_executed w10) (y1).toNatClampNeg (mmd_atE w10)) := ⟨_, rfl⟩
            rw [← ew11] at hP hD
            have hw := hw w11 ew11
            refine lv_iconst (v := (1 : Int32)) hx hb d_Md_goOn_102 (by decide) ?_
            refine lv_istore_n (lv' := [(2, .int (1 : Int32)), (1, .int y1), (0, .ref (a1 0))]) hx hb d_Md_goOn_103 rfl hl (by decide) rfl (fun ls hl => ?_)
            have key104 : ∀ (K104 : Int32 → Int32 → MmdT → Prop) (hk104 : ∀ (y1 : Int32) (y2 : Int32) (z1 : MmdT) (ls : Array Slot) (H : Heap) (locs : List Loc), K104 y1 y2 z1 → lv_has ls 3 [(1, .int y1), (2, .int y2), (0, .ref (a1 0))] → va_P D kmC (mmdW cI cN cZ a1 z1) H → va_D A (mmdW cI cN cZ a1 z1) → va_S A s.heap H locs → W p l e rm_Md_goOn s m ([.ref (a1 0), .int x1] : List Value).toArray below meth c H locs 0 0 (MQ below (va_Qv (fun (u : MmdT) => post u) (km_B D kmC A (fun (u : MmdT) => (mmdW cI cN cZ a1 u))) A) ([.ref (a1 0), .int x1] : List Value).toArray s 0 0 A) (F0 m 132 ls [])) (n104 : Nat), ∀ (y1 : Int32) (y2 : Int32) (z1 : MmdT) (ls : Array Slot) (H : Heap) (locs : List Loc), wp_Md_goOn_L104 K104 n104 y1 y2 z1 → lv_has ls 3 [(1, .int y1), (2, .int y2), (0, .ref (a1 0))] → va_P D kmC (mmdW cI cN cZ a1 z1) H → va_D A (mmdW cI cN cZ a1 z1) → va_S A s.heap H locs → W p l e rm_Md_goOn s m ([.ref (a1 0), .int x1] : List Value).toArray below meth c H locs 0 0 (MQ below (va_Qv (fun (u : MmdT) => post u) (km_B D kmC A (fun (u : MmdT) => (mmdW cI cN cZ a1 u))) A) ([.ref (a1 0), .int x1] : List Value).toArray s 0 0 A) (F0 m 104 ls []) := by
              intro K104 hk104 n104
              induction n104 with
              | zero => intro y1 y2 z1 ls H locs hw; exact hw.elim
              | succ n104 ih104 =>
                intro y1 y2 z1 ls H locs hw hl hP hD hS
                refine lv_iload_n hx hb d_Md_goOn_104 rfl (lv_at hl 1 rfl) ?_
                refine lv_aload_n hx hb d_Md_goOn_105 rfl (lv_at hl 2 rfl) ?_
                refine va_get (D := D) (ci := 6) (v := .int (mmd_atE z1)) (C := R_Md) (T := F_Md) (N := 31) hx hb hts iw_Md hown hK.1 hP 0 rfl rfl 30 (by decide) (hts _ mw_457) (fun _ h => h) rfl d_Md_goOn_106 ?_
                refine lv_icmp_gt (tgt := 132) hx hb d_Md_goOn_109 (by first | rfl | decide) (fun h12 => ?_) (fun h12 => ?_)
                · have hw := hw.1 h12
                  exact hk104 y1 y2 z1 ls H locs hw (lv_sub hl [0, 1, 2] rfl) hP hD hS
                · have hw := hw.2 h12
                  refine lv_aload_n hx hb d_Md_goOn_112 rfl (lv_at hl 2 rfl) ?_
                  refine va_get (D := D) (ci := 6) (v := .ref (a1 9)) (C := R_Md) (T := F_Md) (N := 31) hx hb hts iw_Md hown hK.1 hP 0 rfl rfl 11 (by decide) (hts _ mw_438) (fun _ h => h) rfl d_Md_goOn_113 ?_
                  refine lv_iload_n hx hb d_Md_goOn_116 rfl (lv_at hl 0 rfl) ?_
                  refine lv_dup2_11 hx hb d_Md_goOn_117 rfl rfl ?_
                  obtain ⟨hin, hw⟩ := hw
                  refine va_iald (f := (mmd_known z1)) hx hb hK.1 hP 9 0 rfl rfl hin d_Md_goOn_118 ?_
                  refine lv_iconst (v := (1 : Int32)) hx hb d_Md_goOn_119 (by decide) ?_
                  refine lv_iload_n hx hb d_Md_goOn_120 rfl (lv_at hl 1 rfl) ?_
                  refine lv_ishl hx hb d_Md_goOn_121 ?_
                  refine lv_iconst (v := (-1 : Int32)) hx hb d_Md_goOn_122 (by decide) ?_
                  refine lv_ixor hx hb d_Md_goOn_123 ?_
                  refine lv_iand hx hb d_Md_goOn_124 ?_
                  obtain ⟨hin, hw⟩ := hw
                  refine va_iast (f := (mmd_known z1)) hx hb hK.1 hP hD hS 9 0 rfl rfl hin d_Md_goOn_125 (fun H locs hP hD hS => ?_)
                  have hP := (congrArg (fun w => va_P D kmC w H) (sw_mmd_s_known cI cN cZ a1 z1 (upd (mmd_known z1) (y1).toNatClampNeg (((mmd_known z1) (y1).toNatClampNeg) &&& (((1 : Int32) <<< (y2 &&& 31)) ^^^ (-1 : Int32)))))).mp hP
                  have hD := (congrArg (va_D A) (sw_mmd_s_known cI cN cZ a1 z1 (upd (mmd_known z1) (y1).toNatClampNeg (((mmd_known z1) (y1).toNatClampNeg) &&& (((1 : Int32) <<< (y2 &&& 31)) ^^^ (-1 : Int32)))))).mp hD
                  obtain ⟨w13, ew13⟩ : ∃ z : MmdT, z = mmd_s_known z1 (upd (mmd_known z1) (y1).toNatClampNeg (((mmd_known z1) (y1).toNatClampNeg) &&& (((1 : Int32) <<< (y2 &&& 31)) ^^^ (-1 : Int32)))) := ⟨_, rfl⟩
                  rw [← ew13] at hP hD
                  have hw := hw w13 ew13
                  obtain ⟨v14, ev14⟩ : ∃ z : Int32, z = (y2 + (1 : Int32)) := ⟨_, rfl⟩
                  have hw := hw v14 ev14
                  refine lv_iinc (v := v14) (lv' := [(2, .int v14), (1, .int y1), (0, .ref (a1 0))]) hx hb d_Md_goOn_126 hl (k := 1) rfl ev14.symm (by decide) rfl (fun ls hl => ?_)
                  refine lv_goto (tgt := 104) hx hb d_Md_goOn_129 (by first | rfl | decide) ?_
                  exact ih104 y1 v14 w13 ls H locs hw (lv_sub hl [1, 0, 2] rfl) hP hD hS
            obtain ⟨n104, hw⟩ := hw
            refine key104 _ (fun y1 y2 z1 ls H locs hw hl hP hD hS => ?_) n104 y1 (1 : Int32) w11 ls H locs hw (lv_sub hl [1, 0, 2] rfl) hP hD hS
            refine lv_goto (tgt := 0) hx hb d_Md_goOn_132 (by first | rfl | decide) ?_
            exact ih0 y1 z1 ls H locs hw (lv_sub hl [0, 2] rfl) hP hD hS
          · have hw := hw.2 h9
            refine lv_aload_n hx hb d_Md_goOn_68 rfl (lv_at hl 1 rfl) ?_
            refine va_get (D := D) (ci := 6) (v := .ref (a1 9)) (C := R_Md) (T := F_Md) (N := 31) hx hb hts iw_Md hown hK.1 hP 0 rfl rfl 11 (by decide) (hts _ mw_438) (fun _ h => h) rfl d_Md_goOn_69 ?_
            refine lv_iload_n hx hb d_Md_goOn_72 rfl (lv_at hl 0 rfl) ?_
            refine lv_iconst (v := (0 : Int32)) hx hb d_Md_goOn_73 (by decide) ?_
            obtain ⟨hin, hw⟩ := hw
            refine va_iast (f := (mmd_known u8)) hx hb hK.1 hP hD hS 9 0 rfl rfl hin d_Md_goOn_74 (fun H locs hP hD hS => ?_)
            have hP := (congrArg (fun w => va_P D kmC w H) (sw_mmd_s_known cI cN cZ a1 u8 (upd (mmd_known u8) (y1).toNatClampNeg (0 : Int32)))).mp hP
            have hD := (congrArg (va_D A) (sw_mmd_s_known cI cN cZ a1 u8 (upd (mmd_known u8) (y1).toNatClampNeg (0 : Int32)))).mp hD
            obtain ⟨w15, ew15⟩ : ∃ z : MmdT, z = mmd_s_known u8 (upd (mmd_known u8) (y1).toNatClampNeg (0 : Int32)) := ⟨_, rfl⟩
            rw [← ew15] at hP hD
            have hw := hw w15 ew15
            refine lv_aload_n hx hb d_Md_goOn_75 rfl (lv_at hl 1 rfl) ?_
            refine va_get (D := D) (ci := 6) (v := .ref (a1 16)) (C := R_Md) (T := F_Md) (N := 31) hx hb hts iw_Md hown hK.1 hP 0 rfl rfl 18 (by decide) (hts _ mw_445) (fun _ h => h) rfl d_Md_goOn_76 ?_
            refine lv_iload_n hx hb d_Md_goOn_79 rfl (lv_at hl 0 rfl) ?_
            refine lv_iconst (v := (0 : Int32)) hx hb d_Md_goOn_80 (by decide) ?_
            obtain ⟨hin, hw⟩ := hw
            refine va_iast (f := (mmd_slot w15)) hx hb hK.1 hP hD hS 16 0 rfl rfl hin d_Md_goOn_81 (fun H locs hP hD hS => ?_)
            have hP := (congrArg (fun w => va_P D kmC w H) (sw_mmd_s_slot cI cN cZ a1 w15 (upd (mmd_slot w15) (y1).toNatClampNeg (0 : Int32)))).mp hP
            have hD := (congrArg (va_D A) (sw_mmd_s_slot cI cN cZ a1 w15 (upd (mmd_slot w15) (y1).toNatClampNeg (0 : Int32)))).mp hD
            obtain ⟨w16, ew16⟩ : ∃ z : MmdT, z = mmd_s_slot w15 (upd (mmd_slot w15) (y1).toNatClampNeg (0 : Int32)) := ⟨_, rfl⟩
            rw [← ew16] at hP hD
            have hw := hw w16 ew16
            refine lv_aload_n hx hb d_Md_goOn_82 rfl (lv_at hl 1 rfl) ?_
            refine va_get (D := D) (ci := 6) (v := .ref (a1 7)) (C := R_Md) (T := F_Md) (N := 31) hx hb hts iw_Md hown hK.1 hP 0 rfl rfl 9 (by decide) (hts _ mw_436) (fun _ h => h) rfl d_Md_goOn_83 ?_
            refine lv_iload_n hx hb d_Md_goOn_86 rfl (lv_at hl 0 rfl) ?_
            refine lv_aload_n hx hb d_Md_goOn_87 rfl (lv_at hl 1 rfl) ?_
            refine va_get (D := D) (ci := 6) (v := .int (mmd_atC w16)) (C := R_Md) (T := F_Md) (N := 31) hx hb hts iw_Md hown hK.1 hP 0 rfl rfl 29 (by decide) (hts _ mw_456) (fun _ h => h) rfl d_Md_goOn_88 ?_
            obtain ⟨hin, hw⟩ := hw
            refine va_iast (f := (mmd_configuration w16)) hx hb hK.1 hP hD hS 7 0 rfl rfl hin d_Md_goOn_91 (fun H locs hP hD hS => ?_)
            have hP := (congrArg (fun w => va_P D kmC w H) (sw_mmd_s_configuration cI cN cZ a1 w16 (upd (mmd_configuration w16) (y1).toNatClampNeg (mmd_atC w16)))).mp hP
            have hD := (congrArg (va_D A) (sw_mmd_s_configuration cI cN cZ a1 w16 (upd (mmd_configuration w16) (y1).toNatClampNeg (mmd_atC w16)))).mp hD
            obtain ⟨w17, ew17⟩ : ∃ z : MmdT, z = mmd_s_configuration w16 (upd (mmd_configuration w16) (y1).toNatClampNeg (mmd_atC w16)) := ⟨_, rfl⟩
            rw [← ew17] at hP hD
            have hw := hw w17 ew17
            refine lv_aload_n hx hb d_Md_goOn_92 rfl (lv_at hl 1 rfl) ?_
            refine va_get (D := D) (ci := 6) (v := .ref (a1 8)) (C := R_Md) (T := F_Md) (N := 31) hx hb hts iw_Md hown hK.1 hP 0 rfl rfl 10 (by decide) (hts _ mw_437) (fun _ h => h) rfl d_Md_goOn_93 ?_
            refine lv_iload_n hx hb d_Md_goOn_96 rfl (lv_at hl 0 rfl) ?_
            refine lv_aload_n hx hb d_Md_goOn_97 rfl (lv_at hl 1 rfl) ?_
            refine va_get (D := D) (ci := 6) (v := .int (mmd_atE w17)) (C := R_Md) (T := F_Md) (N := 31) hx hb hts iw_Md hown hK.1 hP 0 rfl rfl 30 (by decide) (hts _ mw_457) (fun _ h => h) rfl d_Md_goOn_98 ?_
            obtain ⟨hin, hw⟩ := hw
            refine va_iast (f := (mmd_executed w17)) hx hb hK.1 hP hD hS 8 0 rfl rfl hin d_Md_goOn_101 (fun H locs hP hD hS => ?_)
            have hP := (congrArg (fun w => va_P D kmC w H) (sw_mmd_s_executed cI cN cZ a1 w17 (upd (mmd_executed w17) (y1).toNatClampNeg (mmd_atE w17)))).mp hP
            have hD := (congrArg (va_D A) (sw_mmd_s_executed cI cN cZ a1 w17 (upd (mmd_executed w17) (y1).toNatClampNeg (mmd_atE w17)))).mp hD
            obtain ⟨w18, ew18⟩ : ∃ z : MmdT, z = mmd_s_executed w17 (upd (mmd_executed w17) (y1).toNatClampNeg (mmd_atE w17)) := ⟨_, rfl⟩
            rw [← ew18] at hP hD
            have hw := hw w18 ew18
            refine lv_iconst (v := (1 : Int32)) hx hb d_Md_goOn_102 (by decide) ?_
            refine lv_istore_n (lv' := [(2, .int (1 : Int32)), (1, .int y1), (0, .ref (a1 0))]) hx hb d_Md_goOn_103 rfl hl (by decide) rfl (fun ls hl => ?_)
            have key104 : ∀ (K104 : Int32 → Int32 → MmdT → Prop) (hk104 : ∀ (y1 : Int32) (y2 : Int32) (z1 : MmdT) (ls : Array Slot) (H : Heap) (locs : List Loc), K104 y1 y2 z1 → lv_has ls 3 [(1, .int y1), (2, .int y2), (0, .ref (a1 0))] → va_P D kmC (mmdW cI cN cZ a1 z1) H → va_D A (mmdW cI cN cZ a1 z1) → va_S A s.heap H locs → W p l e rm_Md_goOn s m ([.ref (a1 0), .int x1] : List Value).toArray below meth c H locs 0 0 (MQ below (va_Qv (fun (u : MmdT) => post u) (km_B D kmC A (fun (u : MmdT) => (mmdW cI cN cZ a1 u))) A) ([.ref (a1 0), .int x1] : List Value).toArray s 0 0 A) (F0 m 132 ls [])) (n104 : Nat), ∀ (y1 : Int32) (y2 : Int32) (z1 : MmdT) (ls : Array Slot) (H : Heap) (locs : List Loc), wp_Md_goOn_L104 K104 n104 y1 y2 z1 → lv_has ls 3 [(1, .int y1), (2, .int y2), (0, .ref (a1 0))] → va_P D kmC (mmdW cI cN cZ a1 z1) H → va_D A (mmdW cI cN cZ a1 z1) → va_S A s.heap H locs → W p l e rm_Md_goOn s m ([.ref (a1 0), .int x1] : List Value).toArray below meth c H locs 0 0 (MQ below (va_Qv (fun (u : MmdT) => post u) (km_B D kmC A (fun (u : MmdT) => (mmdW cI cN cZ a1 u))) A) ([.ref (a1 0), .int x1] : List Value).toArray s 0 0 A) (F0 m 104 ls []) := by
              intro K104 hk104 n104
              induction n104 with
              | zero => intro y1 y2 z1 ls H locs hw; exact hw.elim
              | succ n104 ih104 =>
                intro y1 y2 z1 ls H locs hw hl hP hD hS
                refine lv_iload_n hx hb d_Md_goOn_104 rfl (lv_at hl 1 rfl) ?_
                refine lv_aload_n hx hb d_Md_goOn_105 rfl (lv_at hl 2 rfl) ?_
                refine va_get (D := D) (ci := 6) (v := .int (mmd_atE z1)) (C := R_Md) (T := F_Md) (N := 31) hx hb hts iw_Md hown hK.1 hP 0 rfl rfl 30 (by decide) (hts _ mw_457) (fun _ h => h) rfl d_Md_goOn_106 ?_
                refine lv_icmp_gt (tgt := 132) hx hb d_Md_goOn_109 (by first | rfl | decide) (fun h19 => ?_) (fun h19 => ?_)
                · have hw := hw.1 h19
                  exact hk104 y1 y2 z1 ls H locs hw (lv_sub hl [0, 1, 2] rfl) hP hD hS
                · have hw := hw.2 h19
                  refine lv_aload_n hx hb d_Md_goOn_112 rfl (lv_at hl 2 rfl) ?_
                  refine va_get (D := D) (ci := 6) (v := .ref (a1 9)) (C := R_Md) (T := F_Md) (N := 31) hx hb hts iw_Md hown hK.1 hP 0 rfl rfl 11 (by decide) (hts _ mw_438) (fun _ h => h) rfl d_Md_goOn_113 ?_
                  refine lv_iload_n hx hb d_Md_goOn_116 rfl (lv_at hl 0 rfl) ?_
                  refine lv_dup2_11 hx hb d_Md_goOn_117 rfl rfl ?_
                  obtain ⟨hin, hw⟩ := hw
                  refine va_iald (f := (mmd_known z1)) hx hb hK.1 hP 9 0 rfl rfl hin d_Md_goOn_118 ?_
                  refine lv_iconst (v := (1 : Int32)) hx hb d_Md_goOn_119 (by decide) ?_
                  refine lv_iload_n hx hb d_Md_goOn_120 rfl (lv_at hl 1 rfl) ?_
                  refine lv_ishl hx hb d_Md_goOn_121 ?_
                  refine lv_iconst (v := (-1 : Int32)) hx hb d_Md_goOn_122 (by decide) ?_
                  refine lv_ixor hx hb d_Md_goOn_123 ?_
                  refine lv_iand hx hb d_Md_goOn_124 ?_
                  obtain ⟨hin, hw⟩ := hw
                  refine va_iast (f := (mmd_known z1)) hx hb hK.1 hP hD hS 9 0 rfl rfl hin d_Md_goOn_125 (fun H locs hP hD hS => ?_)
                  have hP := (congrArg (fun w => va_P D kmC w H) (sw_mmd_s_known cI cN cZ a1 z1 (upd (mmd_known z1) (y1).toNatClampNeg (((mmd_known z1) (y1).toNatClampNeg) &&& (((1 : Int32) <<< (y2 &&& 31)) ^^^ (-1 : Int32)))))).mp hP
                  have hD := (congrArg (va_D A) (sw_mmd_s_known cI cN cZ a1 z1 (upd (mmd_known z1) (y1).toNatClampNeg (((mmd_known z1) (y1).toNatClampNeg) &&& (((1 : Int32) <<< (y2 &&& 31)) ^^^ (-1 : Int32)))))).mp hD
                  obtain ⟨w20, ew20⟩ : ∃ z : MmdT, z = mmd_s_known z1 (upd (mmd_known z1) (y1).toNatClampNeg (((mmd_known z1) (y1).toNatClampNeg) &&& (((1 : Int32) <<< (y2 &&& 31)) ^^^ (-1 : Int32)))) := ⟨_, rfl⟩
                  rw [← ew20] at hP hD
                  have hw := hw w20 ew20
                  obtain ⟨v21, ev21⟩ : ∃ z : Int32, z = (y2 + (1 : Int32)) := ⟨_, rfl⟩
                  have hw := hw v21 ev21
                  refine lv_iinc (v := v21) (lv' := [(2, .int v21), (1, .int y1), (0, .ref (a1 0))]) hx hb d_Md_goOn_126 hl (k := 1) rfl ev21.symm (by decide) rfl (fun ls hl => ?_)
                  refine lv_goto (tgt := 104) hx hb d_Md_goOn_129 (by first | rfl | decide) ?_
                  exact ih104 y1 v21 w20 ls H locs hw (lv_sub hl [1, 0, 2] rfl) hP hD hS
            obtain ⟨n104, hw⟩ := hw
            refine key104 _ (fun y1 y2 z1 ls H locs hw hl hP hD hS => ?_) n104 y1 (1 : Int32) w18 ls H locs hw (lv_sub hl [1, 0, 2] rfl) hP hD hS
            refine lv_goto (tgt := 0) hx hb d_Md_goOn_132 (by first | rfl | decide) ?_
            exact ih0 y1 z1 ls H locs hw (lv_sub hl [0, 2] rfl) hP hD hS
  obtain ⟨n0, hw⟩ := hw
  refine key0 _ (fun y1 z1 ls H locs hw hl hP hD hS => ?_) n0 x1 z1 ls s.heap [] hw (lv_sub hl [1, 0] rfl) hP hD hS
  refine lv_aload_n hx hb d_Md_goOn_135 rfl (lv_at hl 1 rfl) ?_
  refine va_get (D := D) (ci := 6) (v := .ref (a1 16)) (C := R_Md) (T := F_Md) (N := 31) hx hb hts iw_Md hown hK.1 hP 0 rfl rfl 18 (by decide) (hts _ mw_445) (fun _ h => h) rfl d_Md_goOn_136 ?_
  refine lv_iload_n hx hb d_Md_goOn_139 rfl (lv_at hl 0 rfl) ?_
  obtain ⟨hin, hw⟩ := hw
  refine va_iald (f := (mmd_slot z1)) hx hb hK.1 hP 16 0 rfl rfl hin d_Md_goOn_140 ?_
  refine lv_if_le (tgt := 180) hx hb d_Md_goOn_141 (by first | rfl | decide) (fun h22 => ?_) (fun h22 => ?_)
  · have hw := hw.1 h22
    exact W.vret hx hb hr (fun t ht hW => ⟨⟨z1, rfl, hw, by rw [ht]; exact hP, hD⟩, hS.F ht⟩) hS.2.2 d_Md_goOn_180
  · have hw := hw.2 h22
    refine lv_aload_n hx hb d_Md_goOn_144 rfl (lv_at hl 1 rfl) ?_
    refine va_get (D := D) (ci := 6) (v := .ref (a1 16)) (C := R_Md) (T := F_Md) (N := 31) hx hb hts iw_Md hown hK.1 hP 0 rfl rfl 18 (by decide) (hts _ mw_445) (fun _ h => h) rfl d_Md_goOn_145 ?_
    refine lv_iload_n hx hb d_Md_goOn_148 rfl (lv_at hl 0 rfl) ?_
    obtain ⟨hin, hw⟩ := hw
    refine va_iald (f := (mmd_slot z1)) hx hb hK.1 hP 16 0 rfl rfl hin d_Md_goOn_149 ?_
    refine lv_aload_n hx hb d_Md_goOn_150 rfl (lv_at hl 1 rfl) ?_
    refine va_get (D := D) (ci := 6) (v := .ref (a1 8)) (C := R_Md) (T := F_Md) (N := 31) hx hb hts iw_Md hown hK.1 hP 0 rfl rfl 10 (by decide) (hts _ mw_437) (fun _ h => h) rfl d_Md_goOn_151 ?_
    refine lv_iload_n hx hb d_Md_goOn_154 rfl (lv_at hl 0 rfl) ?_
    obtain ⟨hin, hw⟩ := hw
    refine va_iald (f := (mmd_executed z1)) hx hb hK.1 hP 8 0 rfl rfl hin d_Md_goOn_155 ?_
    refine lv_icmp_le (tgt := 173) hx hb d_Md_goOn_156 (by first | rfl | decide) (fun h23 => ?_) (fun h23 => ?_)
    · have hw := hw.1 h23
      refine lv_aload_n hx hb d_Md_goOn_173 rfl (lv_at hl 1 rfl) ?_
      refine va_get (D := D) (ci := 6) (v := .ref (a1 16)) (C := R_Md) (T := F_Md) (N := 31) hx hb hts iw_Md hown hK.1 hP 0 rfl rfl 18 (by decide) (hts _ mw_445) (fun _ h => h) rfl d_Md_goOn_174 ?_
      refine lv_iload_n hx hb d_Md_goOn_177 rfl (lv_at hl 0 rfl) ?_
      refine lv_iconst (v := (0 : Int32)) hx hb d_Md_goOn_178 (by decide) ?_
      obtain ⟨hin, hw⟩ := hw
      refine va_iast (f := (mmd_slot z1)) hx hb hK.1 hP hD hS 16 0 rfl rfl hin d_Md_goOn_179 (fun H locs hP hD hS => ?_)
      have hP := (congrArg (fun w => va_P D kmC w H) (sw_mmd_s_slot cI cN cZ a1 z1 (upd (mmd_slot z1) (y1).toNatClampNeg (0 : Int32)))).mp hP
      have hD := (congrArg (va_D A) (sw_mmd_s_slot cI cN cZ a1 z1 (upd (mmd_slot z1) (y1).toNatClampNeg (0 : Int32)))).mp hD
      obtain ⟨w24, ew24⟩ : ∃ z : MmdT, z = mmd_s_slot z1 (upd (mmd_slot z1) (y1).toNatClampNeg (0 : Int32)) := ⟨_, rfl⟩
      rw [← ew24] at hP hD
      have hw := hw w24 ew24
      exact W.vret hx hb hr (fun t ht hW => ⟨⟨w24, rfl, hw, by rw [ht]; exact hP, hD⟩, hS.F ht⟩) hS.2.2 d_Md_goOn_180
    · have hw := hw.2 h23
      refine lv_aload_n hx hb d_Md_goOn_159 rfl (lv_at hl 1 rfl) ?_
      refine lv_iload_n hx hb d_Md_goOn_160 rfl (lv_at hl 0 rfl) ?_
      refine lv_aload_n hx hb d_Md_goOn_161 rfl (lv_at hl 1 rfl) ?_
      refine va_get (D := D) (ci := 6) (v := .ref (a1 16)) (C := R_Md) (T := F_Md) (N := 31) hx hb hts iw_Md hown hK.1 hP 0 rfl rfl 18 (by decide) (hts _ mw_445) (fun _ h => h) rfl d_Md_goOn_162 ?_
      refine lv_iload_n hx hb d_Md_goOn_165 rfl (lv_at hl 0 rfl) ?_
      obtain ⟨hin, hw⟩ := hw
      refine va_iald (f := (mmd_slot z1)) hx hb hK.1 hP 16 0 rfl rfl hin d_Md_goOn_166 ?_
      refine km_ci (wr := []) (km_rV (n := 2) hE kmG (c_Md_knows l D cI cN cZ a1 z1 y1 ((mmd_slot z1) (y1).toNatClampNeg) _ hw) mw_567 mw_564 mw_566 mp_34 mw_8 (by decide) ⟨rfl, rfl, ⟨by decide, by decide⟩, by decide, by decide⟩ hK (km_cut hP [0, 1, 2, 3, 4, 5, 6, 7, 8, 9, 10, 11, 12, 13, 14, 15, 16, 17, 18, 19, 20, 21, 22, 23, 24, 25] rfl) (hD.sub [0, 1, 2, 3, 4, 5, 6, 7, 8, 9, 10, 11, 12, 13, 14, 15, 16, 17, 18, 19, 20, 21, 22, 23, 24, 25] (by decide) rfl) (ci := 6) rfl hP (q0 := 0) rfl rfl hl.1 rfl (Nat.le_of_ble_eq_true rfl) d_Md_goOn_167) hP hD hS hA [0, 1, 2, 3, 4, 5, 6, 7, 8, 9, 10, 11, 12, 13, 14, 15, 16, 17, 18, 19, 20, 21, 22, 23, 24, 25] [] rfl rfl (by decide) (by decide) (fun r25 u26 H locs hw hP hD hS => ?_)
      have hP : va_P D kmC (mmdW cI cN cZ a1 u26) H := hP
      have hD : va_D A (mmdW cI cN cZ a1 u26) := hD
      refine lv_if_eq (tgt := 180) hx hb d_Md_goOn_170 (by first | rfl | decide) (fun h27 => ?_) (fun h27 => ?_)
      · have hw := hw.1 h27
        exact W.vret hx hb hr (fun t ht hW => ⟨⟨u26, rfl, hw, by rw [ht]; exact hP, hD⟩, hS.F ht⟩) hS.2.2 d_Md_goOn_180
      · have hw := hw.2 h27
        refine lv_aload_n hx hb d_Md_goOn_173 rfl (lv_at hl 1 rfl) ?_
        refine va_get (D := D) (ci := 6) (v := .ref (a1 16)) (C := R_Md) (T := F_Md) (N := 31) hx hb hts iw_Md hown hK.1 hP 0 rfl rfl 18 (by decide) (hts _ mw_445) (fun _ h => h) rfl d_Md_goOn_174 ?_
        refine lv_iload_n hx hb d_Md_goOn_177 rfl (lv_at hl 0 rfl) ?_
        refine lv_iconst (v := (0 : Int32)) hx hb d_Md_goOn_178 (by decide) ?_
        obtain ⟨hin, hw⟩ := hw
        refine va_iast (f := (mmd_slot u26)) hx hb hK.1 hP hD hS 16 0 rfl rfl hin d_Md_goOn_179 (fun H locs hP hD hS => ?_)
        have hP := (congrArg (fun w => va_P D kmC w H) (sw_mmd_s_slot cI cN cZ a1 u26 (upd (mmd_slot u26) (y1).toNatClampNeg (0 : Int32)))).mp hP
        have hD := (congrArg (va_D A) (sw_mmd_s_slot cI cN cZ a1 u26 (upd (mmd_slot u26) (y1).toNatClampNeg (0 : Int32)))).mp hD
        obtain ⟨w28, ew28⟩ : ∃ z : MmdT, z = mmd_s_slot u26 (upd (mmd_slot u26) (y1).toNatClampNeg (0 : Int32)) := ⟨_, rfl⟩
        rw [← ew28] at hP hD
        have hw := hw w28 ew28
        exact W.vret hx hb hr (fun t ht hW => ⟨⟨w28, rfl, hw, by rw [ht]; exact hP, hD⟩, hS.F ht⟩) hS.2.2 d_Md_goOn_180
set_option maxHeartbeats 4000000 in
set_option maxRecDepth 100000 in
theorem c_Md_later (l : Launch) (D : va_G) (cI cN cZ : ClassId) (a1 : Nat → Nat) (z1 : MmdT) (x1 : Int32) (x2 : Int32) (x3 : Int32) (post : Int32 → MmdT → Prop) (hw : wp_Md_later z1 x1 x2 x3 post) : km_I l y_Md_later (.code y_Md_later b_Md_later 4 (some .boolean) :: kmW) rm_Md_later D kmC (kmT cI cN cZ) kmF kmM [.ref (a1 0), .int x1, .int x2, .int x3] (mmdW cI cN cZ a1 z1) (fun (r : Int32) (u : MmdT) => post r u) (fun (u : MmdT) => (mmdW cI cN cZ a1 u)) 0 0 := by
  refine km_startI (cc := b_Md_later) (maxL := 4) (ret := (some .boolean)) (by decide) rfl (Nat.le_of_ble_eq_true rfl) ?_
  intro p e s m below meth c A ls hE hA hK hP hD hS hl
  obtain ⟨hx, hb, hr, hml, hown, hts0, hlk, hnm⟩ := id hE
  have hts : ∀ w ∈ kmW, w.before ([.ref (a1 0), .int x1, .int x2, .int x3] : List Value).toArray s = true := fun w h => hts0 w (List.mem_cons_of_mem _ h)
  have hP : va_P D kmC (mmdW cI cN cZ a1 z1) s.heap := hP
  have hl : lv_has ls 4 [(0, .ref (a1 0)), (1, .int x1), (2, .int x2), (3, .int x3)] := hl
  unfold wp_Md_later at hw
  refine lv_iload_n hx hb d_Md_later_0 rfl (lv_at hl 1 rfl) ?_
  refine lv_aload_n hx hb d_Md_later_1 rfl (lv_at hl 0 rfl) ?_
  refine va_get (D := D) (ci := 6) (v := .ref (a1 7)) (C := R_Md) (T := F_Md) (N := 31) hx hb hts iw_Md hown hK.1 hP 0 rfl rfl 9 (by decide) (hts _ mw_436) (fun _ h => h) rfl d_Md_later_2 ?_
  refine lv_iload_n hx hb d_Md_later_5 rfl (lv_at hl 3 rfl) ?_
  obtain ⟨hin, hw⟩ := hw
  refine va_iald (f := (mmd_configuration z1)) hx hb hK.1 hP 7 0 rfl rfl hin d_Md_later_6 ?_
  refine lv_icmp_gt (tgt := 30) hx hb d_Md_later_7 (by first | rfl | decide) (fun h1 => ?_) (fun h1 => ?_)
  · have hw := hw.1 h1
    refine lv_iconst (v := (1 : Int32)) hx hb d_Md_later_30 (by decide) ?_
    refine lv_goto (tgt := 35) hx hb d_Md_later_31 (by first | rfl | decide) ?_
    exact W.zret (ty := .boolean) (v := (1 : Int32)) hx hb hr (by decide) (fun t ht hW => ⟨⟨(1 : Int32), z1, rfl, hw, by rw [ht]; exact hP, hD⟩, hS.F ht⟩) hS.2.2 d_Md_later_35
  · have hw := hw.2 h1
    refine lv_iload_n hx hb d_Md_later_10 rfl (lv_at hl 1 rfl) ?_
    refine lv_aload_n hx hb d_Md_later_11 rfl (lv_at hl 0 rfl) ?_
    refine va_get (D := D) (ci := 6) (v := .ref (a1 7)) (C := R_Md) (T := F_Md) (N := 31) hx hb hts iw_Md hown hK.1 hP 0 rfl rfl 9 (by decide) (hts _ mw_436) (fun _ h => h) rfl d_Md_later_12 ?_
    refine lv_iload_n hx hb d_Md_later_15 rfl (lv_at hl 3 rfl) ?_
    obtain ⟨hin, hw⟩ := hw
    refine va_iald (f := (mmd_configuration z1)) hx hb hK.1 hP 7 0 rfl rfl hin d_Md_later_16 ?_
    refine lv_icmp_ne (tgt := 34) hx hb d_Md_later_17 (by first | rfl | decide) (fun h2 => ?_) (fun h2 => ?_)
    · have hw := hw.2 h2
      refine lv_iconst (v := (0 : Int32)) hx hb d_Md_later_34 (by decide) ?_
      exact W.zret (ty := .boolean) (v := (0 : Int32)) hx hb hr (by decide) (fun t ht hW => ⟨⟨(0 : Int32), z1, rfl, hw, by rw [ht]; exact hP, hD⟩, hS.F ht⟩) hS.2.2 d_Md_later_35
    · have hw := hw.1 h2
      refine lv_iload_n hx hb d_Md_later_20 rfl (lv_at hl 2 rfl) ?_
      refine lv_aload_n hx hb d_Md_later_21 rfl (lv_at hl 0 rfl) ?_
      refine va_get (D := D) (ci := 6) (v := .ref (a1 8)) (C := R_Md) (T := F_Md) (N := 31) hx hb hts iw_Md hown hK.1 hP 0 rfl rfl 10 (by decide) (hts _ mw_437) (fun _ h => h) rfl d_Md_later_22 ?_
      refine lv_iload_n hx hb d_Md_later_25 rfl (lv_at hl 3 rfl) ?_
      obtain ⟨hin, hw⟩ := hw
      refine va_iald (f := (mmd_executed z1)) hx hb hK.1 hP 8 0 rfl rfl hin d_Md_later_26 ?_
      refine lv_icmp_le (tgt := 34) hx hb d_Md_later_27 (by first | rfl | decide) (fun h3 => ?_) (fun h3 => ?_)
      · have hw := hw.1 h3
        refine lv_iconst (v := (0 : Int32)) hx hb d_Md_later_34 (by decide) ?_
        exact W.zret (ty := .boolean) (v := (0 : Int32)) hx hb hr (by decide) (fun t ht hW => ⟨⟨(0 : Int32), z1, rfl, hw, by rw [ht]; exact hP, hD⟩, hS.F ht⟩) hS.2.2 d_Md_later_35
      · have hw := hw.2 h3
        refine lv_iconst (v := (1 : Int32)) hx hb d_Md_later_30 (by decide) ?_
        refine lv_goto (tgt := 35) hx hb d_Md_later_31 (by first | rfl | decide) ?_
        exact W.zret (ty := .boolean) (v := (1 : Int32)) hx hb hr (by decide) (fun t ht hW => ⟨⟨(1 : Int32), z1, rfl, hw, by rw [ht]; exact hP, hD⟩, hS.F ht⟩) hS.2.2 d_Md_later_35
set_option maxHeartbeats 4000000 in
set_option maxRecDepth 100000 in
theorem c_Md_install (l : Launch) (D : va_G) (cI cN cZ : ClassId) (a1 : Nat → Nat) (z1 : MmdT) (x1 : Int32) (x2 : Int32) (post : MmdT → Prop) (hw : wp_Md_install z1 x1 x2 post) : km_V l y_Md_install (.code y_Md_install b_Md_install 3 none :: kmW) rm_Md_install D kmC (kmT cI cN cZ) kmF kmM [.ref (a1 0), .int x1, .int x2] (mmdW cI cN cZ a1 z1) (fun (u : MmdT) => post u) (fun (u : MmdT) => (mmdW cI cN cZ a1 u)) 0 0 := by
  refine km_startV (cc := b_Md_install) (maxL := 3) (ret := none) (by decide) rfl (Nat.le_of_ble_eq_true rfl) ?_
  intro p e s m below meth c A ls hE hA hK hP hD hS hl
  obtain ⟨hx, hb, hr, hml, hown, hts0, hlk, hnm⟩ := id hE
  have hts : ∀ w ∈ kmW, w.before ([.ref (a1 0), .int x1, .int x2] : List Value).toArray s = true := fun w h => hts0 w (List.mem_cons_of_mem _ h)
  have hP : va_P D kmC (mmdW cI cN cZ a1 z1) s.heap := hP
  have hl : lv_has ls 3 [(0, .ref (a1 0)), (1, .int x1), (2, .int x2)] := hl
  unfold wp_Md_install at hw
  refine lv_aload_n hx hb d_Md_install_0 rfl (lv_at hl 0 rfl) ?_
  refine lv_aload_n hx hb d_Md_install_1 rfl (lv_at hl 0 rfl) ?_
  refine va_get (D := D) (ci := 6) (v := .ref (a1 7)) (C := R_Md) (T := F_Md) (N := 31) hx hb hts iw_Md hown hK.1 hP 0 rfl rfl 9 (by decide) (hts _ mw_436) (fun _ h => h) rfl d_Md_install_2 ?_
  refine lv_iload_n hx hb d_Md_install_5 rfl (lv_at hl 2 rfl) ?_
  obtain ⟨hin, hw⟩ := hw
  refine va_iald (f := (mmd_configuration z1)) hx hb hK.1 hP 7 0 rfl rfl hin d_Md_install_6 ?_
  refine lv_aload_n hx hb d_Md_install_7 rfl (lv_at hl 0 rfl) ?_
  refine va_get (D := D) (ci := 6) (v := .ref (a1 8)) (C := R_Md) (T := F_Md) (N := 31) hx hb hts iw_Md hown hK.1 hP 0 rfl rfl 10 (by decide) (hts _ mw_437) (fun _ h => h) rfl d_Md_install_8 ?_
  refine lv_iload_n hx hb d_Md_install_11 rfl (lv_at hl 2 rfl) ?_
  obtain ⟨hin, hw⟩ := hw
  refine va_iald (f := (mmd_executed z1)) hx hb hK.1 hP 8 0 rfl rfl hin d_Md_install_12 ?_
  refine lv_iload_n hx hb d_Md_install_13 rfl (lv_at hl 1 rfl) ?_
  refine km_ci (wr := []) (km_rV (n := 3) hE kmG (c_Md_later l D cI cN cZ a1 z1 ((mmd_configuration z1) (x2).toNatClampNeg) ((mmd_executed z1) (x2).toNatClampNeg) x1 _ hw) mw_596 mw_593 mw_595 mp_40 mw_8 (by decide) ⟨rfl, rfl, ⟨by decide, by decide⟩, by decide, by decide⟩ hK (km_cut hP [0, 1, 2, 3, 4, 5, 6, 7, 8, 9, 10, 11, 12, 13, 14, 15, 16, 17, 18, 19, 20, 21, 22, 23, 24, 25] rfl) (hD.sub [0, 1, 2, 3, 4, 5, 6, 7, 8, 9, 10, 11, 12, 13, 14, 15, 16, 17, 18, 19, 20, 21, 22, 23, 24, 25] (by decide) rfl) (ci := 6) rfl hP (q0 := 0) rfl rfl hl.1 rfl (Nat.le_of_ble_eq_true rfl) d_Md_install_14) hP hD hS hA [0, 1, 2, 3, 4, 5, 6, 7, 8, 9, 10, 11, 12, 13, 14, 15, 16, 17, 18, 19, 20, 21, 22, 23, 24, 25] [] rfl rfl (by decide) (by decide) (fun r1 u2 H locs hw hP hD hS => ?_)
  have hP : va_P D kmC (mmdW cI cN cZ a1 u2) H := hP
  have hD : va_D A (mmdW cI cN cZ a1 u2) := hD
  refine lv_if_ne (tgt := 21) hx hb d_Md_install_17 (by first | rfl | decide) (fun h3 => ?_) (fun h3 => ?_)
  · have hw := hw.2 h3
    refine lv_aload_n hx hb d_Md_install_21 rfl (lv_at hl 0 rfl) ?_
    refine va_get (D := D) (ci := 6) (v := .ref (a1 7)) (C := R_Md) (T := F_Md) (N := 31) hx hb hts iw_Md hown hK.1 hP 0 rfl rfl 9 (by decide) (hts _ mw_436) (fun _ h => h) rfl d_Md_install_22 ?_
    refine lv_iload_n hx hb d_Md_install_25 rfl (lv_at hl 1 rfl) ?_
    refine lv_aload_n hx hb d_Md_install_26 rfl (lv_at hl 0 rfl) ?_
    refine va_get (D := D) (ci := 6) (v := .ref (a1 7)) (C := R_Md) (T := F_Md) (N := 31) hx hb hts iw_Md hown hK.1 hP 0 rfl rfl 9 (by decide) (hts _ mw_436) (fun _ h => h) rfl d_Md_install_27 ?_
    refine lv_iload_n hx hb d_Md_install_30 rfl (lv_at hl 2 rfl) ?_
    obtain ⟨hin, hw⟩ := hw
    refine va_iald (f := (mmd_configuration u2)) hx hb hK.1 hP 7 0 rfl rfl hin d_Md_install_31 ?_
    obtain ⟨hin, hw⟩ := hw
    refine va_iast (f := (mmd_configuration u2)) hx hb hK.1 hP hD hS 7 0 rfl rfl hin d_Md_install_32 (fun H locs hP hD hS => ?_)
    have hP := (congrArg (fun w => va_P D kmC w H) (sw_mmd_s_configuration cI cN cZ a1 u2 (upd (mmd_configuration u2) (x1).toNatClampNeg ((mmd_configuration u2) (x2).toNatClampNeg)))).mp hP
    have hD := (congrArg (va_D A) (sw_mmd_s_configuration cI cN cZ a1 u2 (upd (mmd_configuration u2) (x1).toNatClampNeg ((mmd_configuration u2) (x2).toNatClampNeg)))).mp hD
    obtain ⟨w4, ew4⟩ : ∃ z : MmdT, z = mmd_s_configuration u2 (upd (mmd_configuration u2) (x1).toNatClampNeg ((mmd_configuration u2) (x2).toNatClampNeg)) := ⟨_, rfl⟩
    rw [← ew4] at hP hD
    have hw := hw w4 ew4
    refine lv_aload_n hx hb d_Md_install_33 rfl (lv_at hl 0 rfl) ?_
    refine va_get (D := D) (ci := 6) (v := .ref (a1 8)) (C := R_Md) (T := F_Md) (N := 31) hx hb hts iw_Md hown hK.1 hP 0 rfl rfl 10 (by decide) (hts _ mw_437) (fun _ h => h) rfl d_Md_install_34 ?_
    refine lv_iload_n hx hb d_Md_install_37 rfl (lv_at hl 1 rfl) ?_
    refine lv_aload_n hx hb d_Md_install_38 rfl (lv_at hl 0 rfl) ?_
    refine va_get (D := D) (ci := 6) (v := .ref (a1 8)) (C := R_Md) (T := F_Md) (N := 31) hx hb hts iw_Md hown hK.1 hP 0 rfl rfl 10 (by decide) (hts _ mw_437) (fun _ h => h) rfl d_Md_install_39 ?_
    refine lv_iload_n hx hb d_Md_install_42 rfl (lv_at hl 2 rfl) ?_
    obtain ⟨hin, hw⟩ := hw
    refine va_iald (f := (mmd_executed w4)) hx hb hK.1 hP 8 0 rfl rfl hin d_Md_install_43 ?_
    obtain ⟨hin, hw⟩ := hw
    refine va_iast (f := (mmd_executed w4)) hx hb hK.1 hP hD hS 8 0 rfl rfl hin d_Md_install_44 (fun H locs hP hD hS => ?_)
    have hP := (congrArg (fun w => va_P D kmC w H) (sw_mmd_s_executed cI cN cZ a1 w4 (upd (mmd_executed w4) (x1).toNatClampNeg ((mmd_executed w4) (x2).toNatClampNeg)))).mp hP
    have hD := (congrArg (va_D A) (sw_mmd_s_executed cI cN cZ a1 w4 (upd (mmd_executed w4) (x1).toNatClampNeg ((mmd_executed w4) (x2).toNatClampNeg)))).mp hD
    obtain ⟨w5, ew5⟩ : ∃ z : MmdT, z = mmd_s_executed w4 (upd (mmd_executed w4) (x1).toNatClampNeg ((mmd_executed w4) (x2).toNatClampNeg)) := ⟨_, rfl⟩
    rw [← ew5] at hP hD
    have hw := hw w5 ew5
    refine lv_aload_n hx hb d_Md_install_45 rfl (lv_at hl 0 rfl) ?_
    refine va_get (D := D) (ci := 6) (v := .ref (a1 9)) (C := R_Md) (T := F_Md) (N := 31) hx hb hts iw_Md hown hK.1 hP 0 rfl rfl 11 (by decide) (hts _ mw_438) (fun _ h => h) rfl d_Md_install_46 ?_
    refine lv_iload_n hx hb d_Md_install_49 rfl (lv_at hl 1 rfl) ?_
    refine lv_iconst (v := (0 : Int32)) hx hb d_Md_install_50 (by decide) ?_
    obtain ⟨hin, hw⟩ := hw
    refine va_iast (f := (mmd_known w5)) hx hb hK.1 hP hD hS 9 0 rfl rfl hin d_Md_install_51 (fun H locs hP hD hS => ?_)
    have hP := (congrArg (fun w => va_P D kmC w H) (sw_mmd_s_known cI cN cZ a1 w5 (upd (mmd_known w5) (x1).toNatClampNeg (0 : Int32)))).mp hP
    have hD := (congrArg (va_D A) (sw_mmd_s_known cI cN cZ a1 w5 (upd (mmd_known w5) (x1).toNatClampNeg (0 : Int32)))).mp hD
    obtain ⟨w6, ew6⟩ : ∃ z : MmdT, z = mmd_s_known w5 (upd (mmd_known w5) (x1).toNatClampNeg (0 : Int32)) := ⟨_, rfl⟩
    rw [← ew6] at hP hD
    have hw := hw w6 ew6
    refine lv_aload_n hx hb d_Md_install_52 rfl (lv_at hl 0 rfl) ?_
    refine va_get (D := D) (ci := 6) (v := .ref (a1 16)) (C := R_Md) (T := F_Md) (N := 31) hx hb hts iw_Md hown hK.1 hP 0 rfl rfl 18 (by decide) (hts _ mw_445) (fun _ h => h) rfl d_Md_install_53 ?_
    refine lv_iload_n hx hb d_Md_install_56 rfl (lv_at hl 1 rfl) ?_
    refine lv_iconst (v := (0 : Int32)) hx hb d_Md_install_57 (by decide) ?_
    obtain ⟨hin, hw⟩ := hw
    refine va_iast (f := (mmd_slot w6)) hx hb hK.1 hP hD hS 16 0 rfl rfl hin d_Md_install_58 (fun H locs hP hD hS => ?_)
    have hP := (congrArg (fun w => va_P D kmC w H) (sw_mmd_s_slot cI cN cZ a1 w6 (upd (mmd_slot w6) (x1).toNatClampNeg (0 : Int32)))).mp hP
    have hD := (congrArg (va_D A) (sw_mmd_s_slot cI cN cZ a1 w6 (upd (mmd_slot w6) (x1).toNatClampNeg (0 : Int32)))).mp hD
    obtain ⟨w7, ew7⟩ : ∃ z : MmdT, z = mmd_s_slot w6 (upd (mmd_slot w6) (x1).toNatClampNeg (0 : Int32)) := ⟨_, rfl⟩
    rw [← ew7] at hP hD
    have hw := hw w7 ew7
    exact W.vret hx hb hr (fun t ht hW => ⟨⟨w7, rfl, hw, by rw [ht]; exact hP, hD⟩, hS.F ht⟩) hS.2.2 d_Md_install_59
  · have hw := hw.1 h3
    exact W.vret hx hb hr (fun t ht hW => ⟨⟨u2, rfl, hw, by rw [ht]; exact hP, hD⟩, hS.F ht⟩) hS.2.2 d_Md_install_20
